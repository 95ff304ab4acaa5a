section
/-- a private method of a class that the tables say can be made, by its rows of tables_1 -/
def lw_okq (q : MethodName × Nat) : Prop := (q.1.cls ≠ "java/lang/invoke/MethodHandle" ∧ q.1.cls ≠ "java/lang/invoke/VarHandle") ∧ Cond.instantiable q.1.cls q.2 ∈ tables_1 ∧ Cond.privateMethod q.1 ∈ tables_1 ∧ Cond.instanceMethod q.1 ∈ tables_1
theorem lw_p0 : lw_okq (⟨"java/lang/Throwable", "fillInStackTrace", "(I)Ljava/lang/Throwable;"⟩, 6) := ⟨⟨by decide +kernel, by decide +kernel⟩, List.mem_of_getElem? (i := 117) (by decide +kernel), List.mem_of_getElem? (i := 115) (by decide +kernel), List.mem_of_getElem? (i := 116) (by decide +kernel)⟩
theorem lw_p1 : lw_okq (⟨"LoafMarks$Town", "bakersOfStore", "(I)I"⟩, 9) := ⟨⟨by decide +kernel, by decide +kernel⟩, List.mem_of_getElem? (i := 22) (by decide +kernel), List.mem_of_getElem? (i := 156) (by decide +kernel), List.mem_of_getElem? (i := 157) (by decide +kernel)⟩
theorem lw_p2 : lw_okq (⟨"LoafMarks$Town", "hourOfDay", "()I"⟩, 9) := ⟨⟨by decide +kernel, by decide +kernel⟩, List.mem_of_getElem? (i := 22) (by decide +kernel), List.mem_of_getElem? (i := 207) (by decide +kernel), List.mem_of_getElem? (i := 208) (by decide +kernel)⟩
theorem lw_p3 : lw_okq (⟨"LoafMarks$Town", "barredBakers", "()I"⟩, 9) := ⟨⟨by decide +kernel, by decide +kernel⟩, List.mem_of_getElem? (i := 22) (by decide +kernel), List.mem_of_getElem? (i := 222) (by decide +kernel), List.mem_of_getElem? (i := 223) (by decide +kernel)⟩
theorem lw_p4 : lw_okq (⟨"LoafMarks$Town", "unloadCarts", "(I)V"⟩, 9) := ⟨⟨by decide +kernel, by decide +kernel⟩, List.mem_of_getElem? (i := 22) (by decide +kernel), List.mem_of_getElem? (i := 243) (by decide +kernel), List.mem_of_getElem? (i := 244) (by decide +kernel)⟩
theorem lw_p5 : lw_okq (⟨"LoafMarks$Town", "emptiestStore", "()LLoafMarks$Store;"⟩, 9) := ⟨⟨by decide +kernel, by decide +kernel⟩, List.mem_of_getElem? (i := 22) (by decide +kernel), List.mem_of_getElem? (i := 247) (by decide +kernel), List.mem_of_getElem? (i := 248) (by decide +kernel)⟩
theorem lw_p6 : lw_okq (⟨"LoafMarks$Town", "dealRations", "()V"⟩, 9) := ⟨⟨by decide +kernel, by decide +kernel⟩, List.mem_of_getElem? (i := 22) (by decide +kernel), List.mem_of_getElem? (i := 258) (by decide +kernel), List.mem_of_getElem? (i := 259) (by decide +kernel)⟩
theorem lw_p7 : lw_okq (⟨"LoafMarks$Town", "feedAllWeevils", "()V"⟩, 9) := ⟨⟨by decide +kernel, by decide +kernel⟩, List.mem_of_getElem? (i := 22) (by decide +kernel), List.mem_of_getElem? (i := 266) (by decide +kernel), List.mem_of_getElem? (i := 267) (by decide +kernel)⟩
theorem lw_p8 : lw_okq (⟨"LoafMarks$Town", "bakeAll", "()V"⟩, 9) := ⟨⟨by decide +kernel, by decide +kernel⟩, List.mem_of_getElem? (i := 22) (by decide +kernel), List.mem_of_getElem? (i := 275) (by decide +kernel), List.mem_of_getElem? (i := 276) (by decide +kernel)⟩
theorem lw_p9 : lw_okq (⟨"LoafMarks$Town", "sellAtNoon", "()I"⟩, 9) := ⟨⟨by decide +kernel, by decide +kernel⟩, List.mem_of_getElem? (i := 22) (by decide +kernel), List.mem_of_getElem? (i := 284) (by decide +kernel), List.mem_of_getElem? (i := 285) (by decide +kernel)⟩
theorem lw_p10 : lw_okq (⟨"LoafMarks$Town", "copyStores", "(LLoafMarks$Town;)V"⟩, 9) := ⟨⟨by decide +kernel, by decide +kernel⟩, List.mem_of_getElem? (i := 22) (by decide +kernel), List.mem_of_getElem? (i := 304) (by decide +kernel), List.mem_of_getElem? (i := 305) (by decide +kernel)⟩
theorem lw_p11 : lw_okq (⟨"LoafMarks$Town", "copyBakers", "(LLoafMarks$Town;)V"⟩, 9) := ⟨⟨by decide +kernel, by decide +kernel⟩, List.mem_of_getElem? (i := 22) (by decide +kernel), List.mem_of_getElem? (i := 330) (by decide +kernel), List.mem_of_getElem? (i := 331) (by decide +kernel)⟩
def lw_privs_1 : List (MethodName × Nat) := [(⟨"java/lang/Throwable", "fillInStackTrace", "(I)Ljava/lang/Throwable;"⟩, 6), (⟨"LoafMarks$Town", "bakersOfStore", "(I)I"⟩, 9), (⟨"LoafMarks$Town", "hourOfDay", "()I"⟩, 9), (⟨"LoafMarks$Town", "barredBakers", "()I"⟩, 9), (⟨"LoafMarks$Town", "unloadCarts", "(I)V"⟩, 9), (⟨"LoafMarks$Town", "emptiestStore", "()LLoafMarks$Store;"⟩, 9), (⟨"LoafMarks$Town", "dealRations", "()V"⟩, 9), (⟨"LoafMarks$Town", "feedAllWeevils", "()V"⟩, 9), (⟨"LoafMarks$Town", "bakeAll", "()V"⟩, 9), (⟨"LoafMarks$Town", "sellAtNoon", "()I"⟩, 9), (⟨"LoafMarks$Town", "copyStores", "(LLoafMarks$Town;)V"⟩, 9), (⟨"LoafMarks$Town", "copyBakers", "(LLoafMarks$Town;)V"⟩, 9)]
theorem lw_r1 : ∀ q ∈ lw_privs_1, lw_okq q := List.forall_mem_cons.mpr ⟨lw_p0, List.forall_mem_cons.mpr ⟨lw_p1, List.forall_mem_cons.mpr ⟨lw_p2, List.forall_mem_cons.mpr ⟨lw_p3, List.forall_mem_cons.mpr ⟨lw_p4, List.forall_mem_cons.mpr ⟨lw_p5, List.forall_mem_cons.mpr ⟨lw_p6, List.forall_mem_cons.mpr ⟨lw_p7, List.forall_mem_cons.mpr ⟨lw_p8, List.forall_mem_cons.mpr ⟨lw_p9, List.forall_mem_cons.mpr ⟨lw_p10, List.forall_mem_cons.mpr ⟨lw_p11, fun _ h => absurd h List.not_mem_nil⟩⟩⟩⟩⟩⟩⟩⟩⟩⟩⟩⟩
def lw_privs : List (MethodName × Nat) := lw_privs_1
def lw_tbl : List Cond := k2_sels lw_privs ++ tables_1
theorem lw_privs_ok : ∀ q ∈ lw_privs, lw_okq q := lw_r1
/-- the streams that the claim lets the run draw from -/
abbrev lw_cs : List Choice := [Jvm.Choice.named "NaN.bits"]
theorem lw_bits : nanBits ∈ lw_cs := by first | decide | exact List.mem_cons_self | simp [lw_cs, nanBits]
end
section
/-! ===== what the printed names of the arrays of arrays stand on ===== -/
def va_AOA (ty : FieldType) (U : State) : Prop := (Cond.arrayOver (.array ty)).before #[] U = true
theorem va_AOA.use {ty : FieldType} {A : Array Value} {U : State} (h : va_AOA ty U) : (Cond.arrayOver (.array ty)).before A U = true := h
end
section
/-! ===== BEGIN words of one list among another's, by their places ===== -/
theorem goodIn_r {big : List Cond} (ws : List Cond) (ps : List Nat) (hp : ws = ps.filterMap (fun i => big[i]?)) (h : ws.all goodWord = true) : GoodIn big ws := by
  intro w hw
  have h1 := List.all_eq_true.mp h w hw
  rw [hp] at hw
  obtain ⟨i, -, hi⟩ := List.mem_filterMap.mp hw
  have hm : w ∈ big := by first | exact List.mem_of_getElem? hi | exact List.getElem?_mem hi
  exact ⟨hm, good_of_word h1⟩
theorem goodIn_app {big a b : List Cond} (ha : GoodIn big a) (hb : GoodIn big b) : GoodIn big (a ++ b) := fun w h => (List.mem_append.mp h).elim (ha w) (hb w)
theorem goodIn_ca {big a b : List Cond} {c : Cond} (ha : GoodIn big (c :: a)) (hb : GoodIn big b) : GoodIn big (c :: (a ++ b)) := fun w h => (List.mem_cons.mp h).elim (fun e => ha w (List.mem_cons.mpr (Or.inl e))) (fun h => (List.mem_append.mp h).elim (fun h => ha w (List.mem_cons.mpr (Or.inr h))) (hb w))
theorem goodIn_sub {big ws : List Cond} (hm : ∀ w ∈ ws, w ∈ big) (h : ws.all goodWord = true) : GoodIn big ws := fun w hw => ⟨hm w hw, good_of_word (List.all_eq_true.mp h w hw)⟩
/-! ===== END ===== -/

/-! ===== BEGIN new T[n][m]: the outer array a place, the inner ones among the pooled ===== -/
/-- f, but v at every address of l -/
def vr_up {α : Type} (f : Nat → α) (l : List Nat) (v : α) : Nat → α := fun a => if a ∈ l then v else f a
theorem vr_up_in {α : Type} {f : Nat → α} {l : List Nat} {v : α} {a : Nat} (h : a ∈ l) : vr_up f l v a = v := if_pos h
theorem vr_up_ne {α : Type} {f : Nat → α} {l : List Nat} {v : α} {a : Nat} (h : a ∉ l) : vr_up f l v a = f a := if_neg h
theorem vr_rows {L l : List Nat} {f : Nat → va_E} {e : va_E} (h : ∀ a, a ∈ l → a ∉ L) : va_pl L f ++ l.map (fun a => (a, e)) = va_pl (L ++ l) (vr_up f l e) := by
  unfold va_pl
  rw [List.map_append]
  congr 1
  · apply List.map_congr_left
    intro a ha
    rw [vr_up_ne (fun q => h a q ha)]
  · apply List.map_congr_left
    intro a ha
    rw [vr_up_in ha]
theorem vr_lay {X rows : va_W} {x : Nat × va_E} {pl : va_W} {D : va_G} {cl : List vw_C} {H : Heap} (hP : va_P D cl (((X ++ pl) ++ [x]) ++ rows) H) : va_P D cl ((X ++ [x]) ++ (pl ++ rows)) H := by
  rw [List.append_assoc (X ++ pl)] at hP
  have h := va_P.swap hP
  rw [← List.append_assoc X] at h
  have h2 := va_P.swap h
  rw [List.append_assoc (X ++ [x])] at h2
  exact h2
theorem vr_layD {X rows : va_W} {x : Nat × va_E} {pl : va_W} {A : Nat → Prop} (hD : va_D A (((X ++ pl) ++ [x]) ++ rows)) : va_D A ((X ++ [x]) ++ (pl ++ rows)) := by
  rw [List.append_assoc (X ++ pl)] at hD
  have h := va_D.swap hD
  rw [← List.append_assoc X] at h
  have h2 := va_D.swap h
  rw [List.append_assoc (X ++ [x])] at h2
  exact h2
theorem vr_outer (c : ClassId) (N h0 : Nat) : ∀ i : Nat, Jvm.Free.Multi.outerC c N h0 i = arrV c N (fun j => va_rf (if j < i then some (h0 + 1 + j) else none))
  | 0 => by
    show ({ cls := c, slots := Array.replicate N .null, vm := .none } : Cell) = _
    rw [arrV_new]
    refine congrArg (arrV c N) (funext fun j => ?_)
    simp [va_rf]
  | i + 1 => by
    show (Jvm.Free.Multi.outerC c N h0 i).setSlot i (.ref (h0 + 1 + i)) = _
    rw [vr_outer c N h0 i, arrV_store]
    refine congrArg (arrV c N) (funext fun j => ?_)
    by_cases e : j = i
    · subst e
      simp [updV, va_rf]
    · by_cases h : j < i
      · simp [updV, e, h, Nat.lt_succ_of_lt h]
      · simp [updV, e, h, show ¬ j < i + 1 by omega]
section VGM
variable {p : Program} {l : Launch} {e : Env} {R : Room} {s : State} {m : MethodId} {args : Array Value} {below : List Frame} {meth : Method} {c : Code} {H : Heap} {locs : List Loc} {cells slots : Nat} {Q : State → Prop}
variable {cc : ByteArray} {pc : Nat} {ls : Array Slot} {rest : List Value} {D : va_G} {cl : List vw_C} {A : Nat → Prop} {a : Nat} {tys : List (ClassId × FieldType)} {ws : va_W} {H0 : Heap}
theorem va_mna {X : va_W} {L : List Nat} {f : Nat → va_E} {cc : ByteArray} (hexec : p.tables.exec = Jvm.exec) (hb : c.code = cc) {own : String} {index : Nat} {ty : FieldType} {cy : ClassId} (hown : s.vm.findClass own = some m.cls) (hclink : (Cond.classLink own index ("[" ++ (FieldType.array ty).toString)).before args s = true) (hover : va_AOA ty s) (harr : (Cond.arrayClass ty).before args s = true) (hcy : s.vm.findClass (FieldType.array ty).toString = some cy)
    (hK : va_K D cl tys s) (hP : va_P D cl (X ++ va_pl L f) H) (hD : va_D A (X ++ va_pl L f)) (hS : va_S A H0 H locs) (hA : ∀ q, H0.size ≤ q → A q) {n k : Int32} {N' K' : Nat} {z : vp_A} (hn : ¬ n < 0) (hk : ¬ k < 0) (hN : n.toNatClampNeg = N') (hM : k.toNatClampNeg = K')
    (hb1 : N' * 4 ≤ 536870912) (hb2 : K' * componentBytes ty ≤ 536870912) (hb3 : K' ≤ 536870912) (hdf : fits ty (defaultValue ty) = true) (hdd : (defaultValue ty).isDefault = true) (hcells : cells + (1 + N') ≤ R.cells) (hslots : slots + (N' + N' * K') ≤ R.slots) (hz : ∀ c : ClassId, Jvm.Free.Multi.innerC c K' (defaultValue ty) = vp_cell c z) (hdg : decode cc pc = .ok (.multianewarray index 2, 4))
    (kk : ∀ (q : Nat) (r : Nat → Nat) (cA : ClassId) (H1 : Heap), (∀ i j : Nat, i < N' → j < N' → r i = r j → i = j) → (∀ i : Nat, i < N' → r i ∉ L) → va_K D cl (tys ++ [(cA, .array ty)]) s →
      va_P D cl ((X ++ [(q, .inl (cA, N', .inr (.inr (.inr (.inr (fun i => if i < N' then some (r i) else none))))))]) ++ va_pl (L ++ (List.range N').map r) (vr_up f ((List.range N').map r) (.inl (cy, z)))) H1 → va_D A ((X ++ [(q, .inl (cA, N', .inr (.inr (.inr (.inr (fun i => if i < N' then some (r i) else none))))))]) ++ va_pl (L ++ (List.range N').map r) (vr_up f ((List.range N').map r) (.inl (cy, z)))) → va_S A H0 H1 locs →
      W p l e R s m args below meth c H1 locs (cells + 1 + N') (slots + N' + N' * K') Q (F0 m (pc + 4) ls (.ref q :: rest))) : W p l e R s m args below meth c H locs cells slots Q (F0 m pc ls (.int k :: .int n :: rest)) := by
  subst hN
  subst hM
  intro T hT Xs
  obtain ⟨vm₁, cA, comp, -, fA, fC, hO, -, X', step⟩ := Xs.multianewarray2F hexec hown hclink (va_AOA.use hover) harr (g := F0 m pc ls (.int k :: .int n :: rest)) rfl (by rw [hb]; exact hdg) rfl hn hk hb1 hb2 hb3 hdf hdd hcells hslots
  have ec : some cy = some comp := hcy.symm.trans fC
  cases ec
  generalize hF : Jvm.Free.Multi.fill (T.setVm vm₁) cA cy n.toNatClampNeg k.toNatClampNeg (defaultValue ty) n.toNatClampNeg = F at X' step
  have hTh : (T.setVm vm₁).heap = H := hT
  obtain ⟨f1, f2, -, -⟩ := Jvm.Free.Multi.fill_facts (T.setVm vm₁) cA cy n.toNatClampNeg k.toNatClampNeg (defaultValue ty) n.toNatClampNeg
  rw [hF, hTh] at f1 f2
  have hold : ∀ x : Nat, x < H.size → F.heap[x]? = H[x]? := fun x hx => by
    have := Jvm.Free.Multi.fill_old (T.setVm vm₁) cA cy n.toNatClampNeg k.toNatClampNeg (defaultValue ty) (a := x) (by rw [hTh]; exact hx) n.toNatClampNeg
    rw [hF, hTh] at this
    exact this
  have hrow : ∀ j : Nat, j < n.toNatClampNeg → F.heap[H.size + 1 + j]? = some (vp_cell cy z) := fun j hj => by
    have := Jvm.Free.Multi.fill_inner (T.setVm vm₁) cA cy n.toNatClampNeg k.toNatClampNeg (defaultValue ty) n.toNatClampNeg j hj
    rw [hF, hTh, hz] at this
    exact this
  have hout : Jvm.Free.Multi.outerC cA n.toNatClampNeg H.size n.toNatClampNeg = vp_cell cA (n.toNatClampNeg, .inr (.inr (.inr (.inr (fun i => if i < n.toNatClampNeg then some (H.size + 1 + i) else none))))) := by
    rw [vp_cell_q]
    exact vr_outer cA n.toNatClampNeg H.size n.toNatClampNeg
  rw [hout] at f2
  have hlt : ∀ a, a ∈ L → a < H.size := fun a ha => by
    obtain ⟨k9, hk9⟩ := va_pl_get (X := X) (f := f) ha
    exact (hP k9 _ hk9).lt
  have hnl : ∀ i : Nat, i < n.toNatClampNeg → H.size + 1 + i ∉ L := fun i _ h => by
    have := hlt _ h
    omega
  have hnm : ∀ a, a ∈ (List.range n.toNatClampNeg).map (fun i => H.size + 1 + i) → a ∉ L := fun a ha h => by
    obtain ⟨i, -, rfl⟩ := List.mem_map.mp ha
    have := hlt _ h
    omega
  have hP0 : va_P D cl (X ++ va_pl L f) F.heap := hP.kept (fun k9 x hx => hold x.1 ((hP k9 x hx).lt))
  have hP1 : va_P D cl ((X ++ va_pl L f) ++ [(H.size, .inl (cA, n.toNatClampNeg, .inr (.inr (.inr (.inr (fun i => if i < n.toNatClampNeg then some (H.size + 1 + i) else none))))))]) F.heap := hP0.app (fun k9 x hx => by
    have h0 : k9 < 1 := (List.getElem?_eq_some_iff.mp hx).1
    rw [show k9 = 0 by omega] at hx
    cases hx
    exact f2)
  have hP2 : va_P D cl (((X ++ va_pl L f) ++ [(H.size, .inl (cA, n.toNatClampNeg, .inr (.inr (.inr (.inr (fun i => if i < n.toNatClampNeg then some (H.size + 1 + i) else none))))))]) ++ ((List.range n.toNatClampNeg).map (fun i => H.size + 1 + i)).map (fun a => (a, .inl (cy, z)))) F.heap := hP1.app (fun k9 x hx => by
    obtain ⟨a, ha, rfl⟩ := List.mem_map.mp (List.mem_of_getElem? hx)
    obtain ⟨i, hi, rfl⟩ := List.mem_map.mp ha
    exact hrow i (List.mem_range.mp hi))
  have hD2 : va_D A (((X ++ va_pl L f) ++ [(H.size, .inl (cA, n.toNatClampNeg, .inr (.inr (.inr (.inr (fun i => if i < n.toNatClampNeg then some (H.size + 1 + i) else none))))))]) ++ ((List.range n.toNatClampNeg).map (fun i => H.size + 1 + i)).map (fun a => (a, .inl (cy, z)))) := by
    have hD1 := hD.push (e := .inl (cA, n.toNatClampNeg, .inr (.inr (.inr (.inr (fun i => if i < n.toNatClampNeg then some (H.size + 1 + i) else none)))))) hP rfl (hA _ hS.1)
    generalize hW1 : (X ++ va_pl L f) ++ [(H.size, .inl (cA, n.toNatClampNeg, .inr (.inr (.inr (.inr (fun i => if i < n.toNatClampNeg then some (H.size + 1 + i) else none))))))] = W1 at hD1 hP1 ⊢
    have hle : ∀ (k9 : Nat) (x : Nat × va_E), W1[k9]? = some x → x.1 ≤ H.size := fun k9 x hx => by
      rw [← hW1] at hx
      by_cases hl : k9 < (X ++ va_pl L f).length
      · rw [List.getElem?_append_left hl] at hx
        exact Nat.le_of_lt ((hP k9 x hx).lt)
      · rw [List.getElem?_append_right (by omega)] at hx
        have h0 : k9 - (X ++ va_pl L f).length < 1 := (List.getElem?_eq_some_iff.mp hx).1
        rw [show k9 - (X ++ va_pl L f).length = 0 by omega] at hx
        cases hx
        exact Nat.le_refl _
    have hr : ∀ (k9 : Nat) (x : Nat × va_E), (((List.range n.toNatClampNeg).map (fun i => H.size + 1 + i)).map (fun a => ((a, .inl (cy, z)) : Nat × va_E)))[k9]? = some x → x.1 = H.size + 1 + k9 := fun k9 x hx => by
      rw [List.getElem?_map, List.getElem?_map] at hx
      by_cases h9 : k9 < n.toNatClampNeg
      · rw [List.getElem?_range h9] at hx
        cases hx
        rfl
      · have hn0 : (List.range n.toNatClampNeg)[k9]? = none := List.getElem?_eq_none (by rw [List.length_range]; omega)
        rw [hn0] at hx
        cases hx
    refine ⟨fun i j x y hi hj hxy => ?_, fun k9 x hx => ?_⟩
    · by_cases h1 : i < W1.length <;> by_cases h2 : j < W1.length
      · rw [List.getElem?_append_left h1] at hi
        rw [List.getElem?_append_left h2] at hj
        exact hD1.1 i j x y hi hj hxy
      · rw [List.getElem?_append_left h1] at hi
        rw [List.getElem?_append_right (by omega)] at hj
        have := hle _ _ hi
        have := hr _ _ hj
        omega
      · rw [List.getElem?_append_right (by omega)] at hi
        rw [List.getElem?_append_left h2] at hj
        have := hle _ _ hj
        have := hr _ _ hi
        omega
      · rw [List.getElem?_append_right (by omega)] at hi hj
        have := hr _ _ hi
        have := hr _ _ hj
        omega
    · by_cases h1 : k9 < W1.length
      · rw [List.getElem?_append_left h1] at hx
        exact hD1.2 k9 x hx
      · rw [List.getElem?_append_right (by omega)] at hx
        have := hr _ _ hx
        exact hA _ (by have := hS.1; omega)
  have hAr : ArrOfT s cA (.array ty) := fun N9 z9 => by
    obtain ⟨-, k9, hk9, cm9, hkk9⟩ := (hO 0 0 0).1
    exact ⟨(fun q hq => by cases hq), k9, hk9, cm9, hkk9⟩
  have hK2 : va_K D cl (tys ++ [(cA, .array ty)]) s := ⟨hK.1, fun k9 x hx => by
    by_cases hl : k9 < tys.length
    · rw [List.getElem?_append_left hl] at hx
      exact hK.2 k9 x hx
    · rw [List.getElem?_append_right (by omega)] at hx
      have h0 : k9 - tys.length < 1 := (List.getElem?_eq_some_iff.mp hx).1
      rw [show k9 - tys.length = 0 by omega] at hx
      cases hx
      exact ⟨hAr, fA⟩⟩
  obtain ⟨t, a1, b1⟩ := kk H.size (fun i => H.size + 1 + i) cA F.heap (fun i j _ _ h => by have h9 : H.size + 1 + i = H.size + 1 + j := h; omega) hnl hK2 (by rw [← vr_rows hnm]; exact vr_lay hP2) (by rw [← vr_rows hnm]; exact vr_layD hD2) ⟨by rw [f1]; have := hS.1; omega, fun x h1 h2 => (hold x (Nat.lt_of_lt_of_le h1 hS.1)).trans (hS.2.1 x h1 h2), hS.2.2⟩ F rfl X'
  refine ⟨t, step t ?_, b1⟩
  have e : T.heap.size = H.size := by rw [hT]
  rw [e]
  exact a1
end VGM
/-! ===== END ===== -/

/-! ===== BEGIN exceptions that leave a method, and their catching by the caller (launches without stack traces) ===== -/
section VXA
/-! The laws vx_back, vx_callV, vx_callS, vx_callSW, vx_throw0, vx_throwS follow proofs of the library, with one case more: JvmDerived/Free/Laws.lean (Back.of_free), Shelf42/LK1.lean (callV, callS), Shelf/KitTraced.lean (throwNew0V, throwNewS). -/
/-- where a method has thrown q: the class by its name, the cell, what was written, the world -/
def vx_T (XC : String → State → State → Prop) (st : State) (q : Addr) (t : State) (mc ms : Nat) (free : Addr → Prop) : Prop :=
  ∃ (E : String) (ce : Cell) (L : List Loc), XC E st t ∧ t.heap[q]? = some ce ∧ ce.vm = .none ∧ st.vm.findClass E = some ce.cls ∧ st.WarmedH t.vm ∧ st.sameButNew ({ t with vm := st.vm } : State) L mc ms ∧ ∀ z ∈ L, free z.base
def vx_Q (Qc : Array Value → State → Outcome → State → Prop) (XC : String → State → State → Prop) (mc ms : Nat) (free : Addr → Prop) : Array Value → State → Outcome → State → Prop := fun a st o t =>
  (Qc a st o t ∧ ∃ L, FrameEnd st o t L mc ms ∧ ∀ q ∈ L, free q.base) ∨ ∃ q, o = .threw q ∧ vx_T XC st q t mc ms free
/-- a callee that returns or throws -/
def vx_Met (l : Launch) (y : MethodName) (ws : List Cond) (rm : Room) (Pc : Array Value → State → Prop) (Qc : Array Value → State → Outcome → State → Prop) (XC : String → State → State → Prop) (mc ms : Nat) (free : Addr → Prop) : Prop :=
  MetFree l y (headSpec ws rm) Pc (fun _ _ _ _ _ => True) (vx_Q Qc XC mc ms free)
def vx_Post (XC : String → State → State → Prop) (mc ms : Nat) (free : Addr → Prop) : Pt → Array Value → Addr → Pt → Prop := fun A a q B =>
  ∃ (g : JFrame) (mk : MethodId) (t : State) (L : List Loc) (E : String) (ce : Cell), B.U.heap = t.heap ∧ B.U.vm = t.vm ∧ XC E (A.U.calling g mk a) t ∧ t.heap[q]? = some ce ∧ ce.vm = .none ∧ A.U.vm.findClass E = some ce.cls ∧ B.locs = A.locs ++ L ∧ (∀ z ∈ L, free z.base) ∧ B.cells = A.cells + mc ∧ B.slots = A.slots + ms
def vx_Back (l : Launch) (R : Room) (p : Program) (e : Env) (below : List Frame) (s : State) (sargs : Array Value) (y : MethodName) (len W9 : Nat)
    (Pre : Pt → Array Value → Prop) (Post : Pt → Array Value → Option Value → Pt → Prop) (PostX : Pt → Array Value → Addr → Pt → Prop) : Prop :=
  ∀ (m : MethodId) (meth : Method) (c : Code) (A : Pt) (g : JFrame) (ig : Instr) (mk : MethodId) (a : Array Value),
    Stand p l e R s m sargs below meth c A.U A.locs A.cells A.slots → g.method = m → g.locals.size = c.maxLocals → decode c.code g.pc = .ok (ig, len) →
    2 * g.monitorRoom + (g.stack.map fun v => v.category).sum ≤ W9 → A.U.methodNamed? y = some mk → Pre A a →
    (∃ (v : Option Value) (B : Pt), Stand p l e R s m sargs below meth c B.U B.locs B.cells B.slots ∧ Post A a v B ∧
      Steps p.tables e below (doInvoke e (A.U.setTop g) [] mk a).1 (B.U.setTop { g with pc := g.pc + len, stack := v.toList ++ g.stack })) ∨
    (∃ (q : Addr) (B : Pt), Stand p l e R s m sargs below meth c B.U B.locs B.cells B.slots ∧ PostX A a q B ∧
      Steps p.tables e below (doInvoke e (A.U.setTop g) [] mk a).1 ((B.U.setTop g).pushFrame (.throwing q)))
section Payer
variable {l : Launch} {R : Room} {p : Program} {e : Env} {below : List Frame} {s : State} {sargs : Array Value} {y : MethodName} {len W9 : Nat}
theorem vx_back {ws : List Cond} {rm : Room} {Pc : Array Value → State → Prop} {Qc : Array Value → State → Outcome → State → Prop} {XC : String → State → State → Prop} {mc ms : Nat} {free : Addr → Prop} {bytes : ByteArray} {maxL : Nat} {ret : Option FieldType}
    (hM : vx_Met l y ws rm Pc Qc XC mc ms free) (hblind : FrameBlind Pc) (hrc : rm.cells = mc) (hrs : rm.slots = ms)
    (hframes : rm.frames + 1 ≤ R.frames) (hlocals : W9 + (maxL + 11) + rm.locals ≤ R.locals)
    (hws : ∀ w ∈ ws, ∀ a' U, s.WarmedH U.vm → w.before a' U = true) (hcode : Cond.code y bytes maxL ret ∈ ws) (hinit : ∀ a' U, s.WarmedH U.vm → (Cond.initialized y.cls).before a' U = true) :
    vx_Back l R p e below s sargs y len W9 (PreOf R mc ms Pc) (PostOf Qc mc ms free) (vx_Post XC mc ms free) := by
  intro m meth c A g ig mk a X hg hsize hdg hW hn hp
  have h1 : (headSpec ws rm).pre.before a A.U = true := atoms_intro fun w hw => hws w hw _ _ X.warmed
  have h2 : (Cond.code y bytes maxL ret).before a A.U = true := hws _ hcode _ _ X.warmed
  have h3 : (Cond.initialized y.cls).before a A.U = true := hinit _ _ X.warmed
  have h4 : A.cells + (headSpec ws rm).room.cells ≤ R.cells := by rw [show (headSpec ws rm).room.cells = mc from hrc]; exact hp.1
  have h5 : A.slots + (headSpec ws rm).room.slots ≤ R.slots := by rw [show (headSpec ws rm).room.slots = ms from hrs]; exact hp.2.1
  have hPc : Pc a (A.U.calling g mk a) := hblind _ _ _ _ hp.2.2
  obtain ⟨U, Ls, c0, s0⟩ := A
  dsimp only [Pt.U, Pt.locs, Pt.cells, Pt.slots] at h1 h2 h3 h4 h5 X hn hPc ⊢
  obtain ⟨methY, cY, hmY, hcY, -, hlY, -, -, -, -⟩ := Cond.code_spec hn h2
  obtain ⟨kY, hkY, -⟩ := className_of_methodNamed hn
  have hinitY : kY.init = .initialized := Cond.initialized_spec (findClass_of_methodNamed hn) hkY h3
  have h : At U g.method c below := by rw [hg]; exact X.here
  have hlocals9 : W9 + (maxL + 11) + (headSpec ws rm).room.locals ≤ R.locals := hlocals
  have happ : (headSpec ws rm).appliesLoose y e.platform (U.calling g mk a) = true :=
    Spec.appliesLoose_calling (g := g) h hdg hn hkY hinitY
      (X.room_calling (g := g) (R' := (headSpec ws rm).room) hsize hmY hcY hframes (by rw [hlY]; omega) h4 h5) h1
  obtain ⟨mid, hmid⟩ := h.above
  have hfr : (U.setTop g).frames = (.java g :: mid) ++ below := by rw [State.frames_setTop' g h.top, hmid]; rfl
  obtain ⟨o, s₂, hsteps, -, hend, hq⟩ := Steps.callFree hM p X.admits X.cas X.clock (acts := []) hfr happ hPc trivial
  have hq' : vx_Q Qc XC mc ms free a (U.calling g mk a) o s₂ := hq
  rw [State.frames_setTop' g h.top] at hend
  obtain ⟨g₀, hg0⟩ := Option.isSome_iff_exists.mp h.top
  obtain ⟨r, hr⟩ := State.topJava?_eq_some.mp hg0
  have hr' : (({ U with heap := s₂.heap, slotsUsed := s₂.slotsUsed } : State).setVm s₂.vm).frames = .java g₀ :: r := hr
  rcases hq' with ⟨hqc, L, hfe, hL⟩ | ⟨q, rfl, E, ce, L, hx, hce, hcv, hcl, hW₂, hsm, hL⟩
  · obtain ⟨⟨v, rfl⟩, hW₂, e2, q2, q3, q4, q5, q6⟩ := id hfe
    have e3 : s₂ = ({ (U.calling g mk a).setFrames s₂.frames with heap := s₂.heap, slotsUsed := s₂.slotsUsed } : State).setVm s₂.vm := by
      have : s₂ = ({ s₂ with vm := (U.calling g mk a).vm } : State).setVm s₂.vm := rfl
      rw [e2] at this
      exact this
    obtain ⟨c₂, i₂, len₂, hc₂, hd₂, hf₂⟩ := hend
    have hW' : U.WarmedH s₂.vm := hW₂
    have hcc : c₂ = c := by
      have h1 : s₂.code? g.method = U.code? g.method := by
        rw [State.code?_eq, State.code?_eq, hW'.alike.method?]
      exact Option.some.inj (hc₂.symm.trans (h1.trans h.code))
    subst hcc
    have hlen : len₂ = len := by rw [hdg] at hd₂; cases hd₂; rfl
    subst hlen
    have hs₂ : s₂ = (({ U with heap := s₂.heap, slotsUsed := s₂.slotsUsed } : State).setVm s₂.vm).setTop { g with pc := g.pc + len₂, stack := v.toList ++ g.stack } := by
      refine e3.trans ?_
      rw [hf₂, State.calling_eq h.top, State.setFrames_setFrames, State.setTop_of_frames _ hr', hr]
      rfl
    have hsame : U.sameButNew ({ U with heap := s₂.heap, slotsUsed := s₂.slotsUsed } : State) L mc ms := by
      refine ⟨?_, q2, q3, q4, q5, q6⟩
      obtain ⟨t, ht, -⟩ := State.frames_cons hr
      show ({ U with heap := s₂.heap, slotsUsed := s₂.slotsUsed } : State) = { U.setFrames U.frames with heap := s₂.heap, slotsUsed := s₂.slotsUsed }
      rw [State.setFrames_self ht]
    subst hg
    refine Or.inl ⟨v, ⟨(({ U with heap := s₂.heap, slotsUsed := s₂.slotsUsed } : State).setVm s₂.vm), Ls ++ L, c0 + mc, s0 + ms⟩,
      ⟨X.admits, X.cas, X.clock, X.frames, X.room, X.hears, X.method, X.code, (X.here.setHeapUsed s₂.heap s₂.slotsUsed).setVm hW'.alike, X.tail, State.WarmedH.trans X.warmed hW', X.limits, X.bytes, X.same.trans (hsame.setVm s.vm)⟩,
      ⟨g, mk, s₂, L, rfl, rfl, hqc, rfl, hL, rfl, rfl⟩, ?_⟩
    show Steps p.tables e below _ ((({ U with heap := s₂.heap, slotsUsed := s₂.slotsUsed } : State).setVm s₂.vm).setTop { g with pc := g.pc + len₂, stack := v.toList ++ g.stack })
    rw [← hs₂]
    exact hsteps
  · obtain ⟨e2, q2, q3, q4, q5, q6⟩ := id hsm
    have e3 : s₂ = ({ (U.calling g mk a).setFrames s₂.frames with heap := s₂.heap, slotsUsed := s₂.slotsUsed } : State).setVm s₂.vm := by
      have : s₂ = ({ s₂ with vm := (U.calling g mk a).vm } : State).setVm s₂.vm := rfl
      rw [e2] at this
      exact this
    have hf₂ : s₂.frames = .throwing q :: .java g :: U.frames.tail := hend
    have hW' : U.WarmedH s₂.vm := hW₂
    have hs₂ : s₂ = ((({ U with heap := s₂.heap, slotsUsed := s₂.slotsUsed } : State).setVm s₂.vm).setTop g).pushFrame (.throwing q) := by
      refine e3.trans ?_
      rw [hf₂, State.calling_eq h.top, State.setFrames_setFrames, State.pushFrame, State.frames_setTop _ hr', State.setTop_of_frames _ hr', State.setFrames_setFrames, hr]
      rfl
    have hsame : U.sameButNew ({ U with heap := s₂.heap, slotsUsed := s₂.slotsUsed } : State) L mc ms := by
      refine ⟨?_, q2, q3, q4, q5, q6⟩
      obtain ⟨t, ht, -⟩ := State.frames_cons hr
      show ({ U with heap := s₂.heap, slotsUsed := s₂.slotsUsed } : State) = { U.setFrames U.frames with heap := s₂.heap, slotsUsed := s₂.slotsUsed }
      rw [State.setFrames_self ht]
    subst hg
    refine Or.inr ⟨q, ⟨(({ U with heap := s₂.heap, slotsUsed := s₂.slotsUsed } : State).setVm s₂.vm), Ls ++ L, c0 + mc, s0 + ms⟩,
      ⟨X.admits, X.cas, X.clock, X.frames, X.room, X.hears, X.method, X.code, (X.here.setHeapUsed s₂.heap s₂.slotsUsed).setVm hW'.alike, X.tail, State.WarmedH.trans X.warmed hW', X.limits, X.bytes, X.same.trans (hsame.setVm s.vm)⟩,
      ⟨g, mk, s₂, L, E, ce, rfl, rfl, hx, hce, hcv, hcl, rfl, hL, rfl, rfl⟩, ?_⟩
    show Steps p.tables e below _ (((({ U with heap := s₂.heap, slotsUsed := s₂.slotsUsed } : State).setVm s₂.vm).setTop g).pushFrame (.throwing q))
    rw [← hs₂]
    exact hsteps
end Payer
section Calls
variable {p : Program} {l : Launch} {e : Env} {R : Room} {s : State} {m : MethodId} {args : Array Value} {below : List Frame} {meth : Method} {c : Code} {T : State} {locs : List Loc} {cells slots : Nat}
theorem vx_callV (X : Stand p l e R s m args below meth c T locs cells slots) (hexec : p.tables.exec = Jvm.exec) {own C : String} {index : Nat} {y : MethodName} {bytes : ByteArray} {maxL : Nat} {ret : Option FieldType}
    (hown : s.vm.findClass own = some m.cls) (hlink : (Cond.methodLink own index y).before args s = true) (hinst : (Cond.instanceMethod y).before args s = true) (hsel : (Cond.selects C y y).before args s = true)
    (hcode : (Cond.code y bytes maxL ret).before args s = true) (hy : y.cls ≠ "java/lang/invoke/MethodHandle" ∧ y.cls ≠ "java/lang/invoke/VarHandle")
    {W9 : Nat} {Pre : Pt → Array Value → Prop} {Post : Pt → Array Value → Option Value → Pt → Prop} {PostX : Pt → Array Value → Addr → Pt → Prop} (hK : vx_Back l R p e below s args y 3 W9 Pre Post PostX)
    {b : Addr} {cellB : Cell} (hcell : T.heap[b]? = some cellB) (hobj : cellB.vm.isStatics = false) (hcls : s.vm.findClass C = some cellB.cls)
    {g : JFrame} (hg : g.method = m) (hsize : g.locals.size = c.maxLocals) {argsL rest : List Value} (hlen : ∀ sig, parseMethodDescriptor y.desc = some sig → argsL.length = sig.parameters.length)
    (hstack : g.stack = argsL.reverse ++ .ref b :: rest) (hW : 2 * g.monitorRoom + (rest.map fun v => v.category).sum ≤ W9) (hdg : decode c.code g.pc = .ok (.invokevirtual index, 3))
    (hpre : ∀ vm₁, s.WarmedH vm₁ → Pre ⟨T.setVm vm₁, locs, cells, slots⟩ (Value.ref b :: argsL).toArray) :
    (∃ (v : Option Value) (vm₁ : Vm) (B : Pt), s.WarmedH vm₁ ∧ Stand p l e R s m args below meth c B.U B.locs B.cells B.slots ∧ Post ⟨T.setVm vm₁, locs, cells, slots⟩ (Value.ref b :: argsL).toArray v B ∧
      ∀ target, Steps p.tables e below (B.U.setTop { g with pc := g.pc + 3, stack := v.toList ++ rest }) target → Steps p.tables e below (T.setTop g) target) ∨
    (∃ (q : Addr) (vm₁ : Vm) (B : Pt), s.WarmedH vm₁ ∧ Stand p l e R s m args below meth c B.U B.locs B.cells B.slots ∧ PostX ⟨T.setVm vm₁, locs, cells, slots⟩ (Value.ref b :: argsL).toArray q B ∧
      Steps p.tables e below (T.setTop g) ((B.U.setTop { g with stack := rest }).pushFrame (.throwing q))) := by
  obtain ⟨mk, methM, hnamed, hmethM, hstM, habM⟩ := Cond.instanceMethod_spec hinst
  obtain ⟨methM', cM, hmethM', -, -, -, -, -, -, hsigM⟩ := Cond.code_spec hnamed hcode
  cases hmethM.symm.trans hmethM'
  obtain ⟨c2, r2, m2, q1, q2, q3, q4, kP, hkP, hkPi⟩ := Cond.selects_spec hsel
  cases hcls.symm.trans q1
  cases (State.methodFound?_of_named hnamed hy).symm.trans q2
  cases hnamed.symm.trans q3
  have hselP : selectMethod e.platform s.vm cellB.cls mk = .method mk := by rw [Launch.admits_selectMethod X.admits]; exact q4
  obtain ⟨vm₁, X₁, hstep₁⟩ := X.invokevirtual hexec hown hlink hnamed hmethM hstM hkP hkPi hy (a := b) (cell := cellB) hcell
    (fun z h => by rw [h] at hobj; cases hobj) hselP hmethM habM hkP hkPi (g := g) hg (argsL := argsL) (rest := rest) (hlen _ hsigM) hstack hdg
  rcases hK m meth c ⟨T.setVm vm₁, locs, cells, slots⟩ { g with stack := rest } (.invokevirtual index) mk (Value.ref b :: argsL).toArray X₁ hg hsize hdg hW (X₁.named hnamed) (hpre vm₁ X₁.warmed) with ⟨v, B, X', hpost, hsteps⟩ | ⟨q, B, X', hpost, hsteps⟩
  · exact Or.inl ⟨v, vm₁, B, X₁.warmed, X', hpost, fun target h => hstep₁ _ fun acts => by rw [doInvoke_state]; exact hsteps.trans h⟩
  · exact Or.inr ⟨q, vm₁, B, X₁.warmed, X', hpost, hstep₁ _ fun acts => by rw [doInvoke_state]; exact hsteps⟩
theorem vx_callS (X : Stand p l e R s m args below meth c T locs cells slots) (hexec : p.tables.exec = Jvm.exec) {own : String} {index : Nat} {y : MethodName} {bytes : ByteArray} {maxL : Nat} {ret : Option FieldType}
    (hown : s.vm.findClass own = some m.cls) (hlink : (Cond.methodLink own index y).before args s = true) (hstat : (Cond.static y).before args s = true) (hinit : (Cond.initialized y.cls).before args s = true)
    (hcode : (Cond.code y bytes maxL ret).before args s = true) (hy : y.cls ≠ "java/lang/invoke/MethodHandle" ∧ y.cls ≠ "java/lang/invoke/VarHandle")
    {W9 : Nat} {Pre : Pt → Array Value → Prop} {Post : Pt → Array Value → Option Value → Pt → Prop} {PostX : Pt → Array Value → Addr → Pt → Prop} (hK : vx_Back l R p e below s args y 3 W9 Pre Post PostX)
    {g : JFrame} (hg : g.method = m) (hsize : g.locals.size = c.maxLocals) {argsL rest : List Value} (hlen : ∀ sig, parseMethodDescriptor y.desc = some sig → argsL.length = sig.parameters.length)
    (hstack : g.stack = argsL.reverse ++ rest) (hW : 2 * g.monitorRoom + (rest.map fun v => v.category).sum ≤ W9) (hdg : decode c.code g.pc = .ok (.invokestatic index, 3))
    (hpre : ∀ vm₁, s.WarmedH vm₁ → Pre ⟨T.setVm vm₁, locs, cells, slots⟩ argsL.toArray) :
    (∃ (v : Option Value) (vm₁ : Vm) (B : Pt), s.WarmedH vm₁ ∧ Stand p l e R s m args below meth c B.U B.locs B.cells B.slots ∧ Post ⟨T.setVm vm₁, locs, cells, slots⟩ argsL.toArray v B ∧
      ∀ target, Steps p.tables e below (B.U.setTop { g with pc := g.pc + 3, stack := v.toList ++ rest }) target → Steps p.tables e below (T.setTop g) target) ∨
    (∃ (q : Addr) (vm₁ : Vm) (B : Pt), s.WarmedH vm₁ ∧ Stand p l e R s m args below meth c B.U B.locs B.cells B.slots ∧ PostX ⟨T.setVm vm₁, locs, cells, slots⟩ argsL.toArray q B ∧
      Steps p.tables e below (T.setTop g) ((B.U.setTop { g with stack := rest }).pushFrame (.throwing q))) := by
  obtain ⟨mk, hnamed⟩ := Cond.code_named hcode
  obtain ⟨methM, cM, hmethM, -, -, -, -, -, -, hsigM⟩ := Cond.code_spec hnamed hcode
  have hstatic : methM.isStatic = true := Cond.static_spec hnamed hmethM hstat
  obtain ⟨kP, hkP, -⟩ := className_of_methodNamed hnamed
  have hinitP : kP.init = .initialized := Cond.initialized_spec (findClass_of_methodNamed hnamed) hkP hinit
  obtain ⟨vm₁, X₁, hstep₁⟩ := X.invokestatic hexec hown hlink hnamed hmethM hstatic hkP hinitP hy (g := g) hg (argsL := argsL) (rest := rest) (hlen _ hsigM) hstack hdg
  rcases hK m meth c ⟨T.setVm vm₁, locs, cells, slots⟩ { g with stack := rest } (.invokestatic index) mk argsL.toArray X₁ hg hsize hdg hW (X₁.named hnamed) (hpre vm₁ X₁.warmed) with ⟨v, B, X', hpost, hsteps⟩ | ⟨q, B, X', hpost, hsteps⟩
  · exact Or.inl ⟨v, vm₁, B, X₁.warmed, X', hpost, fun target h => hstep₁ _ fun acts => by rw [doInvoke_state]; exact hsteps.trans h⟩
  · exact Or.inr ⟨q, vm₁, B, X₁.warmed, X', hpost, hstep₁ _ fun acts => by rw [doInvoke_state]; exact hsteps⟩
end Calls
theorem vx_cls {s : State} {T : State} {vm₁ : Vm} {E : String} {k : ClassId} (hW : s.WarmedH vm₁) (h : (T.setVm vm₁).vm.findClass E = some k) : s.vm.findClass E = some k := by
  have h1 : vm₁.findClass E = some k := h
  rw [hW.alike.findClass] at h1
  exact h1
/-- the method's frame g, with q thrown over it -/
def vx_W (p : Program) (l : Launch) (e : Env) (R : Room) (s : State) (m : MethodId) (args : Array Value) (below : List Frame) (meth : Method) (c : Code) (H : Heap) (locs : List Loc) (cells slots : Nat) (Q : State → Prop) (g : JFrame) (q : Addr) : Prop :=
  ∀ T : State, T.heap = H → Stand p l e R s m args below meth c T locs cells slots → ∃ t, Steps p.tables e below ((T.setTop g).pushFrame (.throwing q)) t ∧ Q t
def vx_Run (p : Program) (l : Launch) (e : Env) (R : Room) (s : State) (m : MethodId) (args : Array Value) (below : List Frame) (meth : Method) (c : Code) (H : Heap) (locs : List Loc) (cells slots mc ms : Nat) (g : JFrame) (rest : List Value) (Qa : State → Outcome → State → Prop) (XC : String → State → State → Prop) (free : Addr → Prop) : Prop :=
  ∀ T : State, T.heap = H → Stand p l e R s m args below meth c T locs cells slots →
    (∃ (v : Option Value) (st₀ t T' : State) (L : List Loc), st₀.heap = H ∧ Stand p l e R s m args below meth c T' (locs ++ L) (cells + mc) (slots + ms) ∧ (∀ q ∈ L, free q.base) ∧ T'.heap = t.heap ∧ T'.vm = t.vm ∧ Qa st₀ (.returned v) t ∧
      Goes p e below T g T' { g with pc := g.pc + 3, stack := v.toList ++ rest }) ∨
    (∃ (q : Addr) (st₀ t T' : State) (L : List Loc) (E : String) (ce : Cell), st₀.heap = H ∧ Stand p l e R s m args below meth c T' (locs ++ L) (cells + mc) (slots + ms) ∧ (∀ z ∈ L, free z.base) ∧ T'.heap = t.heap ∧ T'.vm = t.vm ∧ XC E st₀ t ∧ t.heap[q]? = some ce ∧ ce.vm = .none ∧ s.vm.findClass E = some ce.cls ∧
      Steps p.tables e below (T.setTop g) ((T'.setTop { g with stack := rest }).pushFrame (.throwing q)))
def vx_X {S : Type} (px : S → Prop) (B : String → S → State → Prop) (A : Nat → Prop) : String → State → State → Prop := fun E st t => ∃ u : S, px u ∧ B E u t ∧ va_F A st t
section Runs
variable {p : Program} {l : Launch} {e : Env} {R : Room} {s : State} {m : MethodId} {args : Array Value} {below : List Frame} {meth : Method} {c : Code} {H : Heap} {locs : List Loc} {cells slots : Nat}
variable {y : MethodName} {bytes cc : ByteArray} {maxL nL mc ms n index : Nat} {ret : Option FieldType} {ws : List Cond} {rm : Room} {Pc : Array Value → State → Prop} {Qc : Array Value → State → Outcome → State → Prop} {XC : String → State → State → Prop} {free : Addr → Prop} {Ts : List Cond} {own C : String} {b : Addr} {As rest : List Value} {g : JFrame}
theorem vx_callBack (cb : CallB R s args own index y bytes maxL ret ws rm mc ms n) (hM : vx_Met l y ws rm Pc Qc XC mc ms free) (hbl : FrameBlind Pc) : vx_Back l R p e below s args y 3 8 (PreOf R mc ms Pc) (PostOf Qc mc ms free) (vx_Post XC mc ms free) := by
  obtain ⟨hrc, hrs, hfr, hlo, hws, hcw, -, hini, -⟩ := cb
  exact vx_back (bytes := bytes) (maxL := maxL) (ret := ret) hM hbl hrc hrs hfr hlo hws hcw (fun a' U hW => word_at hW (Or.inl (by first | rfl | simp [Cond.onTables, Cond.keeps, Cond.steady])) hini)
theorem vx_runV (S : CallFix p m c cc nL s args Ts own) (hM : vx_Met l y ws rm Pc Qc XC mc ms free) (cw : CallW R s args own C index y bytes maxL ret ws rm mc ms n) (hp : PreV s H C b Pc As)
    (hg : g.method = m) (hn : As.length = n) (hsize : g.locals.size = nL) (hstack : g.stack = As.reverse ++ .ref b :: rest) (hW : 2 * g.monitorRoom + (rest.map fun v => v.category).sum ≤ 8) (hdg : decode cc g.pc = .ok (.invokevirtual index, 3)) (hf : cells + mc ≤ R.cells ∧ slots + ms ≤ R.slots) :
    vx_Run p l e R s m args below meth c H locs cells slots mc ms g rest (Qc (Value.ref b :: As).toArray) XC free := by
  have hK : vx_Back l R p e below s args y 3 8 (PreOf R mc ms Pc) (PostOf Qc mc ms free) (vx_Post XC mc ms free) := vx_callBack cw.1 hM hp.1
  obtain ⟨⟨-, -, -, -, -, -, hcode, -, hy, hlen, hl⟩, hin, hse⟩ := cw
  obtain ⟨hx, hb, hml, ho, -⟩ := S
  obtain ⟨-, ⟨cellB, hcB, hoB, hclB⟩, hPc⟩ := hp
  intro T hT X
  rcases vx_callV X hx (C := C) (bytes := bytes) (maxL := maxL) (ret := ret) ho hl hin hse hcode hy hK (by rw [hT]; exact hcB) hoB hclB hg (hsize.trans hml.symm) (argsL := As) (rest := rest) (fun sig h => hn.trans (hlen sig h)) hstack hW (by rw [hb]; exact hdg)
    (fun vm₁ hW₁ => ⟨hf.1, hf.2, hPc (T.setVm vm₁) hT hW₁⟩) with ⟨v, vm₁, ⟨U', l2, c2, s2⟩, hW₁, X', ⟨g', mk, t, L, e1, e2, hq, h1, hL, h2, h3⟩, st⟩ | ⟨q, vm₁, ⟨U', l2, c2, s2⟩, hW₁, X', ⟨g', mk, t, L, E, ce, e1, e2, hq, hce, hcv, hcl, h1, hL, h2, h3⟩, st⟩
  · dsimp only [Pt.U, Pt.locs, Pt.cells, Pt.slots] at X' e1 e2 h1 h2 h3 st
    subst h1; subst h2; subst h3
    exact Or.inl ⟨v, (T.setVm vm₁).calling g' mk (Value.ref b :: As).toArray, t, U', L, hT, X', hL, e1, e2, hq, st⟩
  · dsimp only [Pt.U, Pt.locs, Pt.cells, Pt.slots] at X' e1 e2 h1 h2 h3 st hcl
    subst h1; subst h2; subst h3
    exact Or.inr ⟨q, (T.setVm vm₁).calling g' mk (Value.ref b :: As).toArray, t, U', L, E, ce, hT, X', hL, e1, e2, hq, hce, hcv, vx_cls hW₁ hcl, st⟩
theorem vx_runS (S : CallFix p m c cc nL s args Ts own) (hM : vx_Met l y ws rm Pc Qc XC mc ms free) (cw : CallB R s args own index y bytes maxL ret ws rm mc ms n ∧ (Cond.static y).before args s = true) (hp : PreS s H Pc As)
    (hg : g.method = m) (hn : As.length = n) (hsize : g.locals.size = nL) (hstack : g.stack = As.reverse ++ rest) (hW : 2 * g.monitorRoom + (rest.map fun v => v.category).sum ≤ 8) (hdg : decode cc g.pc = .ok (.invokestatic index, 3)) (hf : cells + mc ≤ R.cells ∧ slots + ms ≤ R.slots) :
    vx_Run p l e R s m args below meth c H locs cells slots mc ms g rest (Qc As.toArray) XC free := by
  have hK : vx_Back l R p e below s args y 3 8 (PreOf R mc ms Pc) (PostOf Qc mc ms free) (vx_Post XC mc ms free) := vx_callBack cw.1 hM hp.1
  obtain ⟨⟨-, -, -, -, -, -, hcode, hini, hy, hlen, hl⟩, hstt⟩ := cw
  obtain ⟨hx, hb, hml, ho, -⟩ := S
  intro T hT X
  rcases vx_callS X hx (bytes := bytes) (maxL := maxL) (ret := ret) ho hl hstt hini hcode hy hK hg (hsize.trans hml.symm) (argsL := As) (rest := rest) (fun sig h => hn.trans (hlen sig h)) hstack hW (by rw [hb]; exact hdg)
    (fun vm₁ hW₁ => ⟨hf.1, hf.2, hp.2 (T.setVm vm₁) hT hW₁⟩) with ⟨v, vm₁, ⟨U', l2, c2, s2⟩, hW₁, X', ⟨g', mk, t, L, e1, e2, hq, h1, hL, h2, h3⟩, st⟩ | ⟨q, vm₁, ⟨U', l2, c2, s2⟩, hW₁, X', ⟨g', mk, t, L, E, ce, e1, e2, hq, hce, hcv, hcl, h1, hL, h2, h3⟩, st⟩
  · dsimp only [Pt.U, Pt.locs, Pt.cells, Pt.slots] at X' e1 e2 h1 h2 h3 st
    subst h1; subst h2; subst h3
    exact Or.inl ⟨v, (T.setVm vm₁).calling g' mk As.toArray, t, U', L, hT, X', hL, e1, e2, hq, st⟩
  · dsimp only [Pt.U, Pt.locs, Pt.cells, Pt.slots] at X' e1 e2 h1 h2 h3 st hcl
    subst h1; subst h2; subst h3
    exact Or.inr ⟨q, (T.setVm vm₁).calling g' mk As.toArray, t, U', L, E, ce, hT, X', hL, e1, e2, hq, hce, hcv, vx_cls hW₁ hcl, st⟩
end Runs
section Rows
variable {p : Program} {l : Launch} {e : Env} {R : Room} {s : State} {m : MethodId} {args : Array Value} {below : List Frame} {meth : Method} {c : Code} {H : Heap} {locs : List Loc} {cells slots : Nat} {Q : State → Prop}
variable {mc ms : Nat} {free : Addr → Prop} {A0 A1 : Nat → Prop} {H0 : Heap} {a : Array Value} {pc : Nat} {ls : Array Slot} {st0 rest : List Value}
theorem vx_keep {st₀ t T' : State} {L : List Loc} (h0 : st₀.heap = H) (e1 : T'.heap = t.heap) (hS : va_S A0 H0 H locs) (hA : ∀ q, q < H.size → A1 q → A0 q) (hf : ∀ q, free q → A0 q) (hL : ∀ q ∈ L, free q.base) (hF : va_F A1 st₀ t) :
    H.size ≤ T'.heap.size ∧ (∀ q : Nat, q < H.size → ¬ A1 q → T'.heap[q]? = H[q]?) ∧ va_S A0 H0 T'.heap (locs ++ L) := by
  obtain ⟨hz, hk⟩ := hF
  rw [h0] at hz hk
  exact ⟨by rw [e1]; exact hz, fun q h1 h2 => by rw [e1]; exact hk q h1 h2,
    ⟨Nat.le_trans hS.1 (by rw [e1]; exact hz), fun q h1 h2 => by rw [e1, hk q (Nat.lt_of_lt_of_le h1 hS.1) (fun z => h2 (hA q (Nat.lt_of_lt_of_le h1 hS.1) z))]; exact hS.2.1 q h1 h2, fun q hq => by
      rcases List.mem_append.mp hq with h | h
      · exact hS.2.2 q h
      · exact hf _ (hL q h)⟩⟩
theorem vx_calli {S SX : Type} {post : Int32 → S → Prop} {px : SX → Prop} {B : S → State → Prop} {BX : String → SX → State → Prop} {AX : Nat → Prop} (hr : vx_Run p l e R s m args below meth c H locs cells slots mc ms (F0 m pc ls st0) rest (va_Qi post B A1 a) (vx_X px BX AX) free) (hS : va_S A0 H0 H locs) (hA : ∀ q, q < H.size → A1 q → A0 q) (hf : ∀ q, free q → A0 q) (hAX : ∀ q, q < H.size → AX q → A0 q)
    (kx : ∀ (E : String) (ce : Cell) (q9 : Addr) (u : SX) (t : State) (H1 : Heap) (locs1 : List Loc), t.heap = H1 → s.vm.Alike t.vm → px u → BX E u t → H.size ≤ H1.size → (∀ q : Nat, q < H.size → ¬ AX q → H1[q]? = H[q]?) → va_S A0 H0 H1 locs1 → H1[q9]? = some ce → ce.vm = .none → s.vm.findClass E = some ce.cls → vx_W p l e R s m args below meth c H1 locs1 (cells + mc) (slots + ms) Q (F0 m pc ls rest) q9)
    (kk : ∀ (r : Int32) (u : S) (t : State) (H1 : Heap) (locs1 : List Loc), t.heap = H1 → s.vm.Alike t.vm → post r u → B u t → H.size ≤ H1.size → (∀ q : Nat, q < H.size → ¬ A1 q → H1[q]? = H[q]?) → va_S A0 H0 H1 locs1 → W p l e R s m args below meth c H1 locs1 (cells + mc) (slots + ms) Q (F0 m (pc + 3) ls (.int r :: rest))) : W p l e R s m args below meth c H locs cells slots Q (F0 m pc ls st0) := by
  intro T hT X
  rcases hr T hT X with ⟨v, st₀, t, T', L, h0, X', hL, e1, e2, ⟨⟨r, u, hv, hp, hb⟩, hF⟩, st⟩ | ⟨q, st₀, t, T', L, E, ce, h0, X', hL, e1, e2, ⟨u, hp, hb, hF⟩, hce, hcv, hcl, st⟩
  · cases hv
    obtain ⟨k1, k2, k3⟩ := vx_keep h0 e1 hS hA hf hL hF
    obtain ⟨t2, a1, b1⟩ := kk r u t T'.heap (locs ++ L) e1.symm (by rw [← e2]; exact X'.warmed.alike) hp hb k1 k2 k3 T' rfl X'
    exact ⟨t2, st t2 a1, b1⟩
  · obtain ⟨k1, k2, k3⟩ := vx_keep h0 e1 hS hAX hf hL hF
    obtain ⟨t2, a1, b1⟩ := kx E ce q u t T'.heap (locs ++ L) e1.symm (by rw [← e2]; exact X'.warmed.alike) hp hb k1 k2 k3 (by rw [e1]; exact hce) hcv hcl T' rfl X'
    exact ⟨t2, st.trans a1, b1⟩
theorem vx_calll {S SX : Type} {post : Int64 → S → Prop} {px : SX → Prop} {B : S → State → Prop} {BX : String → SX → State → Prop} {AX : Nat → Prop} (hr : vx_Run p l e R s m args below meth c H locs cells slots mc ms (F0 m pc ls st0) rest (va_Ql post B A1 a) (vx_X px BX AX) free) (hS : va_S A0 H0 H locs) (hA : ∀ q, q < H.size → A1 q → A0 q) (hf : ∀ q, free q → A0 q) (hAX : ∀ q, q < H.size → AX q → A0 q)
    (kx : ∀ (E : String) (ce : Cell) (q9 : Addr) (u : SX) (t : State) (H1 : Heap) (locs1 : List Loc), t.heap = H1 → s.vm.Alike t.vm → px u → BX E u t → H.size ≤ H1.size → (∀ q : Nat, q < H.size → ¬ AX q → H1[q]? = H[q]?) → va_S A0 H0 H1 locs1 → H1[q9]? = some ce → ce.vm = .none → s.vm.findClass E = some ce.cls → vx_W p l e R s m args below meth c H1 locs1 (cells + mc) (slots + ms) Q (F0 m pc ls rest) q9)
    (kk : ∀ (r : Int64) (u : S) (t : State) (H1 : Heap) (locs1 : List Loc), t.heap = H1 → s.vm.Alike t.vm → post r u → B u t → H.size ≤ H1.size → (∀ q : Nat, q < H.size → ¬ A1 q → H1[q]? = H[q]?) → va_S A0 H0 H1 locs1 → W p l e R s m args below meth c H1 locs1 (cells + mc) (slots + ms) Q (F0 m (pc + 3) ls (.long r :: rest))) : W p l e R s m args below meth c H locs cells slots Q (F0 m pc ls st0) := by
  intro T hT X
  rcases hr T hT X with ⟨v, st₀, t, T', L, h0, X', hL, e1, e2, ⟨⟨r, u, hv, hp, hb⟩, hF⟩, st⟩ | ⟨q, st₀, t, T', L, E, ce, h0, X', hL, e1, e2, ⟨u, hp, hb, hF⟩, hce, hcv, hcl, st⟩
  · cases hv
    obtain ⟨k1, k2, k3⟩ := vx_keep h0 e1 hS hA hf hL hF
    obtain ⟨t2, a1, b1⟩ := kk r u t T'.heap (locs ++ L) e1.symm (by rw [← e2]; exact X'.warmed.alike) hp hb k1 k2 k3 T' rfl X'
    exact ⟨t2, st t2 a1, b1⟩
  · obtain ⟨k1, k2, k3⟩ := vx_keep h0 e1 hS hAX hf hL hF
    obtain ⟨t2, a1, b1⟩ := kx E ce q u t T'.heap (locs ++ L) e1.symm (by rw [← e2]; exact X'.warmed.alike) hp hb k1 k2 k3 (by rw [e1]; exact hce) hcv hcl T' rfl X'
    exact ⟨t2, st.trans a1, b1⟩
theorem vx_callf {S SX : Type} {post : UInt32 → S → Prop} {px : SX → Prop} {B : S → State → Prop} {BX : String → SX → State → Prop} {AX : Nat → Prop} (hr : vx_Run p l e R s m args below meth c H locs cells slots mc ms (F0 m pc ls st0) rest (va_Qf post B A1 a) (vx_X px BX AX) free) (hS : va_S A0 H0 H locs) (hA : ∀ q, q < H.size → A1 q → A0 q) (hf : ∀ q, free q → A0 q) (hAX : ∀ q, q < H.size → AX q → A0 q)
    (kx : ∀ (E : String) (ce : Cell) (q9 : Addr) (u : SX) (t : State) (H1 : Heap) (locs1 : List Loc), t.heap = H1 → s.vm.Alike t.vm → px u → BX E u t → H.size ≤ H1.size → (∀ q : Nat, q < H.size → ¬ AX q → H1[q]? = H[q]?) → va_S A0 H0 H1 locs1 → H1[q9]? = some ce → ce.vm = .none → s.vm.findClass E = some ce.cls → vx_W p l e R s m args below meth c H1 locs1 (cells + mc) (slots + ms) Q (F0 m pc ls rest) q9)
    (kk : ∀ (r : UInt32) (u : S) (t : State) (H1 : Heap) (locs1 : List Loc), t.heap = H1 → s.vm.Alike t.vm → post r u → B u t → H.size ≤ H1.size → (∀ q : Nat, q < H.size → ¬ A1 q → H1[q]? = H[q]?) → va_S A0 H0 H1 locs1 → W p l e R s m args below meth c H1 locs1 (cells + mc) (slots + ms) Q (F0 m (pc + 3) ls (.float r :: rest))) : W p l e R s m args below meth c H locs cells slots Q (F0 m pc ls st0) := by
  intro T hT X
  rcases hr T hT X with ⟨v, st₀, t, T', L, h0, X', hL, e1, e2, ⟨⟨r, u, hv, hp, hb⟩, hF⟩, st⟩ | ⟨q, st₀, t, T', L, E, ce, h0, X', hL, e1, e2, ⟨u, hp, hb, hF⟩, hce, hcv, hcl, st⟩
  · cases hv
    obtain ⟨k1, k2, k3⟩ := vx_keep h0 e1 hS hA hf hL hF
    obtain ⟨t2, a1, b1⟩ := kk r u t T'.heap (locs ++ L) e1.symm (by rw [← e2]; exact X'.warmed.alike) hp hb k1 k2 k3 T' rfl X'
    exact ⟨t2, st t2 a1, b1⟩
  · obtain ⟨k1, k2, k3⟩ := vx_keep h0 e1 hS hAX hf hL hF
    obtain ⟨t2, a1, b1⟩ := kx E ce q u t T'.heap (locs ++ L) e1.symm (by rw [← e2]; exact X'.warmed.alike) hp hb k1 k2 k3 (by rw [e1]; exact hce) hcv hcl T' rfl X'
    exact ⟨t2, st.trans a1, b1⟩
theorem vx_calld {S SX : Type} {post : UInt64 → S → Prop} {px : SX → Prop} {B : S → State → Prop} {BX : String → SX → State → Prop} {AX : Nat → Prop} (hr : vx_Run p l e R s m args below meth c H locs cells slots mc ms (F0 m pc ls st0) rest (va_Qd post B A1 a) (vx_X px BX AX) free) (hS : va_S A0 H0 H locs) (hA : ∀ q, q < H.size → A1 q → A0 q) (hf : ∀ q, free q → A0 q) (hAX : ∀ q, q < H.size → AX q → A0 q)
    (kx : ∀ (E : String) (ce : Cell) (q9 : Addr) (u : SX) (t : State) (H1 : Heap) (locs1 : List Loc), t.heap = H1 → s.vm.Alike t.vm → px u → BX E u t → H.size ≤ H1.size → (∀ q : Nat, q < H.size → ¬ AX q → H1[q]? = H[q]?) → va_S A0 H0 H1 locs1 → H1[q9]? = some ce → ce.vm = .none → s.vm.findClass E = some ce.cls → vx_W p l e R s m args below meth c H1 locs1 (cells + mc) (slots + ms) Q (F0 m pc ls rest) q9)
    (kk : ∀ (r : UInt64) (u : S) (t : State) (H1 : Heap) (locs1 : List Loc), t.heap = H1 → s.vm.Alike t.vm → post r u → B u t → H.size ≤ H1.size → (∀ q : Nat, q < H.size → ¬ A1 q → H1[q]? = H[q]?) → va_S A0 H0 H1 locs1 → W p l e R s m args below meth c H1 locs1 (cells + mc) (slots + ms) Q (F0 m (pc + 3) ls (.double r :: rest))) : W p l e R s m args below meth c H locs cells slots Q (F0 m pc ls st0) := by
  intro T hT X
  rcases hr T hT X with ⟨v, st₀, t, T', L, h0, X', hL, e1, e2, ⟨⟨r, u, hv, hp, hb⟩, hF⟩, st⟩ | ⟨q, st₀, t, T', L, E, ce, h0, X', hL, e1, e2, ⟨u, hp, hb, hF⟩, hce, hcv, hcl, st⟩
  · cases hv
    obtain ⟨k1, k2, k3⟩ := vx_keep h0 e1 hS hA hf hL hF
    obtain ⟨t2, a1, b1⟩ := kk r u t T'.heap (locs ++ L) e1.symm (by rw [← e2]; exact X'.warmed.alike) hp hb k1 k2 k3 T' rfl X'
    exact ⟨t2, st t2 a1, b1⟩
  · obtain ⟨k1, k2, k3⟩ := vx_keep h0 e1 hS hAX hf hL hF
    obtain ⟨t2, a1, b1⟩ := kx E ce q u t T'.heap (locs ++ L) e1.symm (by rw [← e2]; exact X'.warmed.alike) hp hb k1 k2 k3 (by rw [e1]; exact hce) hcv hcl T' rfl X'
    exact ⟨t2, st.trans a1, b1⟩
theorem vx_callv {S SX : Type} {post : S → Prop} {px : SX → Prop} {B : S → State → Prop} {BX : String → SX → State → Prop} {AX : Nat → Prop} (hr : vx_Run p l e R s m args below meth c H locs cells slots mc ms (F0 m pc ls st0) rest (va_Qv post B A1 a) (vx_X px BX AX) free) (hS : va_S A0 H0 H locs) (hA : ∀ q, q < H.size → A1 q → A0 q) (hf : ∀ q, free q → A0 q) (hAX : ∀ q, q < H.size → AX q → A0 q)
    (kx : ∀ (E : String) (ce : Cell) (q9 : Addr) (u : SX) (t : State) (H1 : Heap) (locs1 : List Loc), t.heap = H1 → s.vm.Alike t.vm → px u → BX E u t → H.size ≤ H1.size → (∀ q : Nat, q < H.size → ¬ AX q → H1[q]? = H[q]?) → va_S A0 H0 H1 locs1 → H1[q9]? = some ce → ce.vm = .none → s.vm.findClass E = some ce.cls → vx_W p l e R s m args below meth c H1 locs1 (cells + mc) (slots + ms) Q (F0 m pc ls rest) q9)
    (kk : ∀ (u : S) (t : State) (H1 : Heap) (locs1 : List Loc), t.heap = H1 → s.vm.Alike t.vm → post u → B u t → H.size ≤ H1.size → (∀ q : Nat, q < H.size → ¬ A1 q → H1[q]? = H[q]?) → va_S A0 H0 H1 locs1 → W p l e R s m args below meth c H1 locs1 (cells + mc) (slots + ms) Q (F0 m (pc + 3) ls (rest))) : W p l e R s m args below meth c H locs cells slots Q (F0 m pc ls st0) := by
  intro T hT X
  rcases hr T hT X with ⟨v, st₀, t, T', L, h0, X', hL, e1, e2, ⟨⟨u, hv, hp, hb⟩, hF⟩, st⟩ | ⟨q, st₀, t, T', L, E, ce, h0, X', hL, e1, e2, ⟨u, hp, hb, hF⟩, hce, hcv, hcl, st⟩
  · cases hv
    obtain ⟨k1, k2, k3⟩ := vx_keep h0 e1 hS hA hf hL hF
    obtain ⟨t2, a1, b1⟩ := kk u t T'.heap (locs ++ L) e1.symm (by rw [← e2]; exact X'.warmed.alike) hp hb k1 k2 k3 T' rfl X'
    exact ⟨t2, st t2 a1, b1⟩
  · obtain ⟨k1, k2, k3⟩ := vx_keep h0 e1 hS hAX hf hL hF
    obtain ⟨t2, a1, b1⟩ := kx E ce q u t T'.heap (locs ++ L) e1.symm (by rw [← e2]; exact X'.warmed.alike) hp hb k1 k2 k3 (by rw [e1]; exact hce) hcv hcl T' rfl X'
    exact ⟨t2, st.trans a1, b1⟩
/-- caught by the row x of this method's table; the rows ahead don't take it -/
theorem vx_catch {own name : String} {E : String} {ce : Cell} {q : Addr} (hown : s.vm.findClass own = some m.cls) (pre : List ExceptionTableEntry) (x : ExceptionTableEntry) (suf : List ExceptionTableEntry) (hsplit : c.exceptionTable.toList = pre ++ x :: suf)
    (hpass : ∀ z ∈ pre, covers z pc = false ∨ (z.catchType ≠ 0 ∧ ∃ nm : String, (Cond.classLink own z.catchType nm).before args s = true ∧ va_Nc E nm s)) (hx : covers x pc = true) (h0 : x.catchType ≠ 0)
    (hlink : (Cond.classLink own x.catchType name).before args s = true) (hcast : (Cond.castable E name).before args s = true) (hcell : H[q]? = some ce) (hv : ce.vm = .none) (hcl : s.vm.findClass E = some ce.cls)
    (kk : W p l e R s m args below meth c H locs cells slots Q (F0 m x.handlerPc ls [.ref q])) : vx_W p l e R s m args below meth c H locs cells slots Q (F0 m pc ls rest) q := by
  intro T hT X
  have hpl : e.platform.magicAccessors = ({} : Platform).magicAccessors := by rw [X.admits.platform]
  obtain ⟨c3, c4, hc3, hc4, hasg⟩ := Cond.castable_spec hcast
  cases Option.some.inj (hc3.symm.trans hcl)
  obtain ⟨c5, hc5, hcl5⟩ := Cond.classLink_spec hown hlink e.platform hpl
  cases Option.some.inj (hc4.symm.trans hc5)
  obtain ⟨vm', X', st⟩ := X.thenCaughtThrough q (g := F0 m pc ls rest) rfl (Steps.refl _) (by rw [hT]; exact hcell) (by rw [hv]; rfl) (by obtain ⟨k9, h9, -⟩ := Vm.findClass_spec hcl; exact ⟨k9, h9⟩) pre x suf hsplit
    (fun z hz => by
      rcases hpass z hz with h | ⟨hz0, nm, hl1, hn1⟩
      · exact Or.inl h
      · obtain ⟨c6, hc6, hcl6⟩ := Cond.classLink_spec hown hl1 e.platform hpl
        obtain ⟨a8, b8, h1, h2, h3⟩ := hn1
        cases Option.some.inj (h1.symm.trans hcl)
        cases Option.some.inj (h2.symm.trans hc6)
        exact Or.inr ⟨hz0, _, hcl6, h3⟩) hx (Or.inr ⟨h0, c4, hcl5, hasg⟩)
  obtain ⟨t, a1, b1⟩ := kk (T.setVm vm') hT X'
  exact ⟨t, st.trans a1, b1⟩
end Rows
section Ends
variable {p : Program} {l : Launch} {e : Env} {R : Room} {s : State} {m : MethodId} {args : Array Value} {below : List Frame} {meth : Method} {c : Code} {H : Heap} {locs : List Loc} {cells slots : Nat} {Q : State → Prop}
variable {mc ms : Nat} {free : Addr → Prop} {A0 A1 : Nat → Prop} {H0 : Heap} {a : Array Value} {ls : Array Slot} {st0 rest : List Value}
variable {Qc : Array Value → State → Outcome → State → Prop} {XC : String → State → State → Prop}
/-- what a body that may throw owes at its end -/
def vx_MQ (below : List Frame) (Qc : Array Value → State → Outcome → State → Prop) (XC : String → State → State → Prop) (a : Array Value) (s : State) (mc ms : Nat) (free : Addr → Prop) : State → Prop := fun t =>
  ∃ o, t.status = .running ∧ Ended t below o ∧ vx_Q Qc XC mc ms free a s o t
theorem vx_ret {g : JFrame} {mc ms : Nat} (k : W p l e R s m args below meth c H locs cells slots (MQ below Qc args s mc ms free) g) : W p l e R s m args below meth c H locs cells slots (vx_MQ below Qc XC args s mc ms free) g := by
  intro T hT X
  obtain ⟨t, a1, o, b1, b2, b3, b4⟩ := k T hT X
  exact ⟨t, a1, o, b1, b2, Or.inl ⟨b3, b4⟩⟩
/-- not caught here: it goes on to the caller -/
theorem vx_widen {g : JFrame} {q : Addr} {k n : Nat} (h1 : cells ≤ k) (h2 : slots ≤ n) (kk : vx_W p l e R s m args below meth c H locs k n Q g q) : vx_W p l e R s m args below meth c H locs cells slots Q g q := fun T hT X => kk T hT (stand_widen X h1 h2)
theorem vx_out {pc : Nat} {E : String} {ce : Cell} {q : Addr} {mc ms : Nat} (hout : ∀ x ∈ c.exceptionTable.toList, covers x pc = false) (hlocks : meth.locks = false) (hcell : H[q]? = some ce) (hv : ce.vm = .none) (hcl : s.vm.findClass E = some ce.cls)
    (hx : ∀ t : State, t.heap = H → s.vm.Alike t.vm → XC E s t) (hf : ∀ z ∈ locs, free z.base) (hc : cells ≤ mc) (hs : slots ≤ ms) :
    vx_W p l e R s m args below meth c H locs cells slots (vx_MQ below Qc XC args s mc ms free) (F0 m pc ls rest) q := by
  intro T hT X
  obtain ⟨st1, hrun, hend, hW, hsm⟩ := X.leaveThrown q (g := F0 m pc ls rest) rfl rfl rfl hout hlocks
  have hcell9 : (T.setFrames (.throwing q :: below)).heap[q]? = some ce := by
    show T.heap[q]? = some ce
    rw [hT]; exact hcell
  exact ⟨_, st1, .threw q, hrun, hend, Or.inr ⟨q, rfl, E, ce, locs, hx _ hT hW.alike, hcell9, hv, hcl, hW, hsm.mono hc hs, hf⟩⟩
theorem vx_frame {U : State} {k n : Nat} (h : s.sameButNew ({ U with vm := s.vm } : State) locs k n) : s.heap.size ≤ U.heap.size ∧ ∀ q : Nat, q < s.heap.size → (∀ z ∈ locs, z.base ≠ q) → U.heap[q]? = s.heap[q]? := by
  obtain ⟨-, h2, -, -, -, h6⟩ := h
  refine ⟨h2, fun q hq hz => ?_⟩
  obtain ⟨c9, e1, e2, e3, e4⟩ := h6 q _ (Array.getElem?_eq_getElem hq)
  have hs : c9.slots = (s.heap[q]).slots := Array.ext_getElem? fun i => e4 i fun hm => hz _ hm rfl
  have h9 : c9 = s.heap[q] := by
    rw [hs] at e2
    exact e2
  have e5 : U.heap[q]? = some c9 := e1
  rw [e5, h9, Array.getElem?_eq_getElem hq]
/-- the words of a throw but the four that speak of the heap -/
def vx_no (w : Cond) : Bool := decide (w ≠ .isRef (.static Bundle.tN "UNASSIGNED_STACK" Bundle.steD)) && decide (w ≠ .isRef (.static Bundle.tN "SUPPRESSED_SENTINEL" Bundle.listD)) && decide (w ≠ .laysStatic Bundle.tN "UNASSIGNED_STACK" Bundle.steD) && decide (w ≠ .laysStatic Bundle.tN "SUPPRESSED_SENTINEL" Bundle.listD)
def vx_at0 (own : String) (ic : Nat) (X : String) (names : List String) : List Cond := (Bundle.ownAtoms0 own ic X names).filter vx_no
def vx_atS (own : String) (ic : Nat) (X : String) (names : List String) : List Cond := (Bundle.ownAtoms own ic X names).filter vx_no
/-- a word that the tables alone decide, or a good one -/
def vx_ot (w : Cond) : Bool := w.onTables || goodWord w
theorem vx_ot_at {args a' : Array Value} {s U : State} {w : Cond} (hW : s.WarmedH U.vm) (hvm : s.vm = U.vm) (hg : vx_ot w = true) (h : w.before args s = true) : w.before a' U = true := by
  simp only [vx_ot, Bool.or_eq_true] at hg
  rcases hg with hg | hg
  · exact va_tabs hg hvm h
  · exact word_at hW (good_of_word hg) h
/-- a list's words: the good ones out of the method's own list, the others by premises of their own -/
theorem vx_hat {args : Array Value} {s : State} {L B : List Cond} (h1 : ∀ w ∈ L.filter goodWord, w.before args s = true) (h2 : ∀ w ∈ L.filter (fun w => !goodWord w), w ∈ B) (h3 : ∀ w ∈ B, w.before args s = true) : ∀ w ∈ L, w.before args s = true := by
  intro w hw
  by_cases g : goodWord w = true
  · exact h1 w (List.mem_filter.mpr ⟨hw, g⟩)
  · refine h3 w (h2 w (List.mem_filter.mpr ⟨hw, ?_⟩))
    show (!goodWord w) = true
    cases hgw : goodWord w
    · rfl
    · exact absurd hgw g
theorem vx_c {args : Array Value} {s : State} {w : Cond} {B : List Cond} (h : w.before args s = true) (t : ∀ w ∈ B, w.before args s = true) : ∀ w' ∈ w :: B, w'.before args s = true := fun w' h' => (List.mem_cons.mp h').elim (fun e => by rw [e]; exact h) (t w')
theorem vx_n {args : Array Value} {s : State} : ∀ w ∈ ([] : List Cond), w.before args s = true := fun _ h => nomatch h
theorem vx_own {args : Array Value} {s : State} {L : List Cond} (h1 : ∀ w ∈ L.filter vx_no, w.before args s = true)
    (hU : (Cond.isRef (.static Bundle.tN "UNASSIGNED_STACK" Bundle.steD)).before args s = true) (hN : (Cond.isRef (.static Bundle.tN "SUPPRESSED_SENTINEL" Bundle.listD)).before args s = true)
    (lU : (Cond.laysStatic Bundle.tN "UNASSIGNED_STACK" Bundle.steD).before args s = true) (lN : (Cond.laysStatic Bundle.tN "SUPPRESSED_SENTINEL" Bundle.listD).before args s = true) : ∀ w ∈ L, w.before args s = true := by
  intro w hw
  by_cases e1 : w = .isRef (.static Bundle.tN "UNASSIGNED_STACK" Bundle.steD)
  · rw [e1]; exact hU
  · by_cases e2 : w = .isRef (.static Bundle.tN "SUPPRESSED_SENTINEL" Bundle.listD)
    · rw [e2]; exact hN
    · by_cases e3 : w = .laysStatic Bundle.tN "UNASSIGNED_STACK" Bundle.steD
      · rw [e3]; exact lU
      · by_cases e4 : w = .laysStatic Bundle.tN "SUPPRESSED_SENTINEL" Bundle.listD
        · rw [e4]; exact lN
        · exact h1 w (List.mem_filter.mpr ⟨hw, by unfold vx_no; rw [decide_eq_true e1, decide_eq_true e2, decide_eq_true e3, decide_eq_true e4]; rfl⟩)
/-- where a static field lies, its class's statics cell in H -/
def vx_L (C n d : String) (A : Nat → Prop) (U : State) (H : Heap) : Prop := ∃ (c : ClassId) (k : Class) (i : Nat) (f : Field) (a : Nat) (cell : Cell), U.vm.findClass C = some c ∧ U.fieldFound? C n d = some (c, k, i, f) ∧ f.isStatic = true ∧ k.statics = some a ∧ H[a]? = some cell ∧ cell.vm.isStatics = true ∧ cell.cls = c ∧ f.slot < cell.slots.size ∧ k.staticTypes[f.slot]? = some f.type ∧ ¬ A a
theorem vx_L.moved {C n d : String} {A : Nat → Prop} {u U : State} {H : Heap} (hvm : u.vm.Alike U.vm) (h : vx_L C n d A u H) : vx_L C n d A U H := by
  obtain ⟨c, k, i, f, a, cell, h1, h2, h3, h4, h5, h6, h7, h8, h9, h10⟩ := h
  obtain ⟨k', hi', he⟩ := State.fieldFound?_setVm hvm h2
  exact ⟨c, k', i, f, a, cell, by rw [hvm.findClass]; exact h1, hi', h3, by rw [he]; exact h4, h5, h6, h7, h8, by rw [he]; exact h9, h10⟩
theorem vx_L.kept {C n d : String} {A : Nat → Prop} {U : State} {H H1 : Heap} (h : vx_L C n d A U H) (hq : ∀ a : Nat, a < H.size → ¬ A a → H1[a]? = H[a]?) : vx_L C n d A U H1 := by
  obtain ⟨c, k, i, f, a, cell, h1, h2, h3, h4, h5, h6, h7, h8, h9, h10⟩ := h
  exact ⟨c, k, i, f, a, cell, h1, h2, h3, h4, by rw [hq a (Array.getElem?_eq_some_iff.mp h5).1 h10]; exact h5, h6, h7, h8, h9, h10⟩
theorem vx_L.narrow {C n d : String} {A B : Nat → Prop} {U : State} {H : Heap} (h : vx_L C n d A U H) (hAB : ∀ q, B q → A q) : vx_L C n d B U H := by
  obtain ⟨c, k, i, f, a, cell, h1, h2, h3, h4, h5, h6, h7, h8, h9, h10⟩ := h
  exact ⟨c, k, i, f, a, cell, h1, h2, h3, h4, h5, h6, h7, h8, h9, fun z => h10 (hAB _ z)⟩
theorem vx_L.word {C n d : String} {A : Nat → Prop} {s : State} {args : Array Value} (h : vx_L C n d A s s.heap) : (Cond.laysStatic C n d).before args s = true := by
  obtain ⟨c, k, i, f, a, cell, h1, h2, h3, h4, h5, h6, h7, h8, h9, -⟩ := h
  show (Cond.laysStatic C n d).holds args s none s [] = true
  exact Cond.laysStatic_of h1 h2 h3 h4 h5 h6 h7 h8 h9
/-- .. and what it holds: null or some reference -/
def vx_Zq (C n d : String) (A : Nat → Prop) (U : State) (H : Heap) : Prop := va_Zq C n d A U H ∧ vx_L C n d A U H
theorem vx_Zq.moved {C n d : String} {A : Nat → Prop} {u U : State} {H : Heap} (hvm : u.vm.Alike U.vm) (h : vx_Zq C n d A u H) : vx_Zq C n d A U H := ⟨va_Zq.moved hvm h.1, vx_L.moved hvm h.2⟩
theorem vx_Zq.kept {C n d : String} {A : Nat → Prop} {U : State} {H H1 : Heap} (h : vx_Zq C n d A U H) (hq : ∀ a : Nat, a < H.size → ¬ A a → H1[a]? = H[a]?) : vx_Zq C n d A U H1 := ⟨va_Zq.kept h.1 hq, vx_L.kept h.2 hq⟩
theorem vx_Zq.narrow {C n d : String} {A B : Nat → Prop} {U : State} {H : Heap} (h : vx_Zq C n d A U H) (hAB : ∀ q, B q → A q) : vx_Zq C n d B U H := ⟨va_Zq.narrow h.1 hAB, vx_L.narrow h.2 hAB⟩
theorem vx_Zqof {args : Array Value} {s : State} {C n d : String} {A : Nat → Prop} (hl : (Cond.laysStatic C n d).before args s = true) (hini : (Cond.initialized C).before args s = true) (h : (Cond.isRef (.static C n d)).before args s = true) (hA : ∀ a : Nat, a < s.heap.size → ¬ A a) : vx_Zq C n d A s s.heap := by
  refine ⟨va_Zqof hl hini h hA, ?_⟩
  obtain ⟨c, k, i, f, a, cell, h1, h2, h3, h4, h5, h6, h7, h8, h9⟩ := Cond.laysStatic_spec hl
  exact ⟨c, k, i, f, a, cell, h1, h2, h3, h4, h5, h6, h7, h8, h9, hA a (Array.getElem?_eq_some_iff.mp h5).1⟩
theorem vx_isRef {C n d : String} {v : Value} {A : Nat → Prop} {s : State} {args : Array Value} (h : va_Z C n d v A s s.heap) (hv : v.isRef = true) : (Cond.isRef (.static C n d)).before args s = true := by
  obtain ⟨cf, kf, fi, f, a, cell, h1, h2, h3, h4, h5, h6, h7, -⟩ := h
  have he : (Term.static C n d).eval args s none [] s = some v := by
    simp [Term.eval, State.fieldNamed?, h1, h2, h4, h5, h6, h7]
  simp only [Cond.before, Cond.holds, Cond.value, he]
  cases v <;> simp_all [Value.isRef]
theorem vx_isRefq {C n d : String} {A : Nat → Prop} {s : State} {args : Array Value} (h : va_Zq C n d A s s.heap) : (Cond.isRef (.static C n d)).before args s = true := by
  rcases h with h | ⟨t, h⟩
  · exact vx_isRef h rfl
  · exact vx_isRef h rfl
/-- the same frame, seen from here: as if the method were called anew in this heap -/
theorem vx_rebase {T : State} (X : Stand p l e R s m args below meth c T locs cells slots) {R' : Room} (hf : R'.frames ≤ R.frames) (hl : R'.locals ≤ R.locals) (hc : cells + R'.cells ≤ R.cells) (hs : slots + R'.slots ≤ R.slots) :
    Stand p l e R' ((T.setVm s.vm).setFrames (.invoking m args :: below)) m args below meth c T [] 0 0 := by
  have htop : (T.setVm s.vm).topJava?.isSome := X.here.top
  have hF : ((T.setVm s.vm).setFrames (.invoking m args :: below)).frames = .invoking m args :: below := State.frames_setFrames _ (State.cur_lt_of_top htop)
  obtain ⟨g₀, hg0⟩ := Option.isSome_iff_exists.mp htop
  obtain ⟨r, hr⟩ := State.topJava?_eq_some.mp hg0
  have hl9 : e.platform.stackLimits (T.setVm s.vm).me = e.platform.stackLimits s.me := X.limits
  have hb9 : (T.setVm s.vm).me.stackBytes = s.me.stackBytes := X.bytes
  refine ⟨X.admits, X.cas, X.clock, hF, ?_, X.hears, X.method, X.code, X.here, X.tail, X.warmed, ?_, ?_, ?_⟩
  · have h := X.room
    have hU : ((T.setVm s.vm).setFrames (.invoking m args :: below)).localsInUse = s.localsInUse := by
      rw [State.localsInUse_invoking hF (meth := meth) (c := c) X.method X.code, State.localsInUse_invoking X.frames X.method X.code]
    simp only [State.hasRoom, Bool.and_eq_true, decide_eq_true_eq] at h ⊢
    obtain ⟨⟨⟨⟨h1, h2, h3, h4, h5, h6⟩, h7⟩, h8⟩, h9⟩ := h
    rw [X.frames, List.length_cons] at h2 h3
    have q1 := X.heapSize
    have q2 := X.used
    simp only [hF, hU, List.length_cons, State.stackLimits_setFrames, State.stackBytes_setFrames, hl9, hb9]
    refine ⟨⟨⟨⟨by omega, by omega, by omega, by omega, by omega, h6⟩, ?_⟩, ?_⟩, X.book⟩
    · show T.heap.size + R'.cells ≤ e.platform.maxCells
      omega
    · show T.slotsUsed + R'.slots ≤ e.platform.maxSlots
      omega
  · rw [State.stackLimits_setFrames]; rfl
  · rw [State.stackBytes_setFrames]; rfl
  · refine ⟨?_, Nat.le_refl _, Nat.le_refl _, ?_, ?_, fun a c9 h9 => ⟨c9, h9, rfl, rfl, fun _ _ => rfl⟩⟩
    · obtain ⟨t, ht, -⟩ := State.frames_cons hr
      show T.setVm s.vm = { ((T.setVm s.vm).setFrames (.invoking m args :: below)).setFrames (T.setVm s.vm).frames with heap := T.heap, slotsUsed := T.slotsUsed }
      rw [State.setFrames_setFrames, State.setFrames_self ht]
      rfl
    · show T.slotsUsed = T.slotsUsed + ((T.heap.toList.drop T.heap.size).map (·.slots.size)).sum
      rw [List.drop_eq_nil_of_le (Nat.le_of_eq Array.length_toList)]
      rfl
    · show ((T.heap.toList.drop T.heap.size).map (·.slots.size)).sum ≤ 0
      rw [List.drop_eq_nil_of_le (Nat.le_of_eq Array.length_toList)]
      exact Nat.le_refl _
/-- 'throw new E()': new; dup; invokespecial; athrow -/
theorem vx_throw0 {cc : ByteArray} {pc : Nat} (hexec : p.tables.exec = Jvm.exec) (hb : c.code = cc) (hl : l.stackTraces = false) {own cls : String} {names : List String} {ik ic mc ms : Nat} {A : Nat → Prop}
    (hown : s.vm.findClass own = some m.cls) (hcls : Bundle.fit cls = true) (hnames : ∀ n ∈ names, Bundle.fit n = true)
    (hk : (Cond.classLink own ik cls).before args s = true) (hini : (Cond.initialized cls).before args s = true) (hat : ∀ w ∈ vx_at0 own ic cls names, w.before args s = true)
    (hgood : ∀ w ∈ Cond.classLink own ik cls :: Cond.initialized cls :: vx_at0 own ic cls names, vx_ot w = true)
    (hU : vx_Zq Bundle.tN "UNASSIGNED_STACK" Bundle.steD A s s.heap) (hN : vx_Zq Bundle.tN "SUPPRESSED_SENTINEL" Bundle.listD A s s.heap) (hS : va_S A s.heap H locs) (hsize : ls.size = c.maxLocals)
    (d0 : decode cc pc = .ok (.new ik, 3)) (d3 : decode cc (pc + 3) = .ok (.dup, 1)) (d4 : decode cc (pc + 4) = .ok (.invokespecial ic, 3)) (d7 : decode cc (pc + 7) = .ok (.athrow, 1))
    (hout : ∀ x ∈ c.exceptionTable.toList, covers x (pc + 7) = false)
    (hRframes : names.length + 3 < R.frames) (hRlocals : (rest.map fun v => v.category).sum + (13 * (names.length + 1) + 42) ≤ R.locals) (hRcells : cells + 1 ≤ R.cells) (hRslots : slots + 6 ≤ R.slots) (hlocks : meth.locks = false)
    (hx : ∀ t : State, s.vm.Alike t.vm → H.size ≤ t.heap.size → (∀ q : Nat, q < H.size → t.heap[q]? = H[q]?) → XC cls s t)
    (hf : ∀ z ∈ locs, free z.base) (hc : cells + 1 ≤ mc) (hs : slots + 6 ≤ ms) :
    W p l e R s m args below meth c H locs cells slots (vx_MQ below Qc XC args s mc ms free) (F0 m pc ls rest) := by
  intro T hT X
  have htr : e.platform.stackTraces = false := (show e.platform.stackTraces = l.stackTraces by rw [X.admits.platform]).trans hl
  have Y := vx_rebase X (R' := { frames := R.frames, locals := R.locals, cells := 1, slots := 6 }) (Nat.le_refl _) (Nat.le_refl _) hRcells hRslots
  obtain ⟨s', hA⟩ : ∃ z, z = (T.setVm s.vm).setFrames (.invoking m args :: below) := ⟨_, rfl⟩
  rw [← hA] at Y
  have hvm : s'.vm = s.vm := by rw [hA]; rfl
  have hhp : s'.heap = H := by rw [hA]; exact hT
  have hW0 : s.WarmedH s'.vm := by rw [hvm]; exact State.WarmedH.refl s
  have hat' : ∀ w ∈ vx_at0 own ic cls names, w.before args s' = true := fun w hw => vx_ot_at hW0 hvm.symm (hgood w (List.mem_cons_of_mem _ (List.mem_cons_of_mem _ hw))) (hat w hw)
  have hk' : (Cond.classLink own ik cls).before args s' = true := vx_ot_at hW0 hvm.symm (hgood _ List.mem_cons_self) hk
  have hini' : (Cond.initialized cls).before args s' = true := vx_ot_at hW0 hvm.symm (hgood _ (List.mem_cons_of_mem _ List.mem_cons_self)) hini
  have hU' : vx_Zq Bundle.tN "UNASSIGNED_STACK" Bundle.steD A s' s'.heap := by rw [hhp]; exact vx_Zq.moved hW0.alike (hU.kept hS.2.1)
  have hN' : vx_Zq Bundle.tN "SUPPRESSED_SENTINEL" Bundle.listD A s' s'.heap := by rw [hhp]; exact vx_Zq.moved hW0.alike (hN.kept hS.2.1)
  have h : ∀ w ∈ Bundle.ownAtoms0 own ic cls names, w.before args s' = true := vx_own hat' (vx_isRefq hU'.1) (vx_isRefq hN'.1) hU'.2.word hN'.2.word
  have hown' : s'.vm.findClass own = some m.cls := by rw [hvm]; exact hown
  have hins : (Cond.instantiable cls 6).before args s' = true := h _ (by simp [Bundle.ownAtoms0])
  obtain ⟨vm₁, cX, kX, hfX, hkX, -, -, X₁, st1⟩ := Y.newCold hexec (own := own) (C := cls) (index := ik) (n := 6) hown' hk' hins hini'
    (g := F0 m pc ls rest) rfl (by rw [hb]; exact d0) (Nat.le_refl _) (Nat.le_refl _)
  generalize hT1 : (T.setVm vm₁).pushCell { cls := cX, slots := kX.instanceTypes.map defaultValue, vm := .none } = T1 at X₁ st1
  have hcat : (Value.ref T.heap.size).category = 1 := rfl
  have hcellA : T1.heap[T.heap.size]? = some (freshCell cX kX) := by rw [← hT1]; exact State.heap_pushCell_size _ _
  have d3' : decode c.code (pc + 3) = .ok (.dup, 1) := by rw [hb]; exact d3
  obtain ⟨U, hsteps, hrun, hend, hW, hsame, ce, hce, hO⟩ := X₁.ctorThrow0 hexec htr (own := own) (cls := cls) (names := names) (ic := ic) hown' hcls hnames h (fun x hx => nomatch hx) hfX hkX hcellA (by rw [hhp, hT]; exact Nat.le_refl _)
    (g := { method := m, pc := pc + 4, locals := ls, stack := .ref T.heap.size :: .ref T.heap.size :: rest, locked := none }) rfl hsize rfl rfl (rest := rest) rfl
    (by rw [hb]; exact d4) (by rw [hb]; exact d7) hout hRframes (by simp only [List.map_cons, List.sum_cons, hcat]; omega) hlocks
  obtain ⟨f1, f2⟩ := vx_frame hsame
  rw [hhp] at f1 f2
  have hWs : s.WarmedH U.vm := State.WarmedH.trans hW0 hW
  have hcl : s.vm.findClass cls = some ce.cls := by
    have h9 := hO.cls
    rw [hvm] at h9
    exact h9
  have hall : s.sameButNew ({ U with vm := s.vm } : State) locs mc ms := by
    subst hA
    obtain ⟨e1, e2⟩ := hsame
    rw [State.setFrames_setFrames] at e1
    have h2 : (T.setVm s.vm).sameButNew ({ U with vm := s.vm } : State) [] (0 + 1) (0 + 6) := ⟨e1, e2⟩
    have h3 := X.same.trans h2
    rw [List.append_nil] at h3
    exact h3.mono hc hs
  refine ⟨U, ?_, .threw T.heap.size, hrun, hend, Or.inr ⟨T.heap.size, rfl, cls, ce, locs, hx U hWs.alike f1 (fun q hq => f2 q hq (fun z hz => nomatch hz)), hce, hO.vm, hcl, hWs, hall, hf⟩⟩
  refine st1 _ ?_
  show Steps p.tables e below (T1.setTop { method := m, pc := pc + 3, locals := ls, stack := .ref T.heap.size :: rest, locked := none }) _
  jvm_step X₁.here [X₁.here.top, hexec, d3', Value.category]
  exact hsteps
/-- 'throw new E("text")': new; dup; ldc; invokespecial; athrow -/
theorem vx_throwS {cc : ByteArray} {pc : Nat} (hexec : p.tables.exec = Jvm.exec) (hb : c.code = cc) (hl : l.stackTraces = false) {own cls text : String} {names : List String} {ik is ic mc ms sa : Nat} {A : Nat → Prop}
    (hown : s.vm.findClass own = some m.cls) (hcls : Bundle.fit cls = true) (hnames : ∀ n ∈ names, Bundle.fit n = true)
    (hk : (Cond.classLink own ik cls).before args s = true) (hini : (Cond.initialized cls).before args s = true) (hstr : vk_R own is text sa s) (hat : ∀ w ∈ vx_atS own ic cls names, w.before args s = true)
    (hgood : ∀ w ∈ Cond.classLink own ik cls :: Cond.initialized cls :: vx_atS own ic cls names, vx_ot w = true)
    (hU : vx_Zq Bundle.tN "UNASSIGNED_STACK" Bundle.steD A s s.heap) (hN : vx_Zq Bundle.tN "SUPPRESSED_SENTINEL" Bundle.listD A s s.heap) (hS : va_S A s.heap H locs) (hsize : ls.size = c.maxLocals)
    (d0 : decode cc pc = .ok (.new ik, 3)) (d3 : decode cc (pc + 3) = .ok (.dup, 1)) (d4 : decode cc (pc + 4) = .ok (.ldc is, 2)) (d6 : decode cc (pc + 6) = .ok (.invokespecial ic, 3)) (d9 : decode cc (pc + 9) = .ok (.athrow, 1))
    (hout : ∀ x ∈ c.exceptionTable.toList, covers x (pc + 9) = false)
    (hRframes : names.length + 3 < R.frames) (hRlocals : (rest.map fun v => v.category).sum + (13 * (names.length + 1) + 43) ≤ R.locals) (hRcells : cells + 1 ≤ R.cells) (hRslots : slots + 6 ≤ R.slots) (hlocks : meth.locks = false)
    (hx : ∀ t : State, s.vm.Alike t.vm → H.size ≤ t.heap.size → (∀ q : Nat, q < H.size → t.heap[q]? = H[q]?) → XC cls s t)
    (hf : ∀ z ∈ locs, free z.base) (hc : cells + 1 ≤ mc) (hs : slots + 6 ≤ ms) :
    W p l e R s m args below meth c H locs cells slots (vx_MQ below Qc XC args s mc ms free) (F0 m pc ls rest) := by
  intro T hT X
  have htr : e.platform.stackTraces = false := (show e.platform.stackTraces = l.stackTraces by rw [X.admits.platform]).trans hl
  have Y := vx_rebase X (R' := { frames := R.frames, locals := R.locals, cells := 1, slots := 6 }) (Nat.le_refl _) (Nat.le_refl _) hRcells hRslots
  obtain ⟨s', hA⟩ : ∃ z, z = (T.setVm s.vm).setFrames (.invoking m args :: below) := ⟨_, rfl⟩
  rw [← hA] at Y
  have hvm : s'.vm = s.vm := by rw [hA]; rfl
  have hhp : s'.heap = H := by rw [hA]; exact hT
  have hW0 : s.WarmedH s'.vm := by rw [hvm]; exact State.WarmedH.refl s
  have hat' : ∀ w ∈ vx_atS own ic cls names, w.before args s' = true := fun w hw => vx_ot_at hW0 hvm.symm (hgood w (List.mem_cons_of_mem _ (List.mem_cons_of_mem _ hw))) (hat w hw)
  have hk' : (Cond.classLink own ik cls).before args s' = true := vx_ot_at hW0 hvm.symm (hgood _ List.mem_cons_self) hk
  have hini' : (Cond.initialized cls).before args s' = true := vx_ot_at hW0 hvm.symm (hgood _ (List.mem_cons_of_mem _ List.mem_cons_self)) hini
  have hU' : vx_Zq Bundle.tN "UNASSIGNED_STACK" Bundle.steD A s' s'.heap := by rw [hhp]; exact vx_Zq.moved hW0.alike (hU.kept hS.2.1)
  have hN' : vx_Zq Bundle.tN "SUPPRESSED_SENTINEL" Bundle.listD A s' s'.heap := by rw [hhp]; exact vx_Zq.moved hW0.alike (hN.kept hS.2.1)
  have h : ∀ w ∈ Bundle.ownAtoms own ic cls names, w.before args s' = true := vx_own hat' (vx_isRefq hU'.1) (vx_isRefq hN'.1) hU'.2.word hN'.2.word
  have hown' : s'.vm.findClass own = some m.cls := by rw [hvm]; exact hown
  have hins : (Cond.instantiable cls 6).before args s' = true := h _ (by simp [Bundle.ownAtoms])
  obtain ⟨vm₁, cX, kX, hfX, hkX, -, -, X₁, st1⟩ := Y.newCold hexec (own := own) (C := cls) (index := ik) (n := 6) hown' hk' hins hini'
    (g := F0 m pc ls rest) rfl (by rw [hb]; exact d0) (Nat.le_refl _) (Nat.le_refl _)
  generalize hT1 : (T.setVm vm₁).pushCell { cls := cX, slots := kX.instanceTypes.map defaultValue, vm := .none } = T1 at X₁ st1
  have hcat : (Value.ref T.heap.size).category = 1 := rfl
  have hcellA : T1.heap[T.heap.size]? = some (freshCell cX kX) := by rw [← hT1]; exact State.heap_pushCell_size _ _
  have d3' : decode c.code (pc + 3) = .ok (.dup, 1) := by rw [hb]; exact d3
  have d4' : decode c.code (pc + 4) = .ok (.ldc is, 2) := by rw [hb]; exact d4
  have hstr' : vk_R own is text sa s' := vk_R.warm hW0 hstr
  obtain ⟨U, hsteps, hrun, hend, hW, hsame, ce, hce, hO⟩ := X₁.ctorThrowS hexec htr (own := own) (cls := cls) (names := names) (ic := ic) hown' hcls hnames h (fun x hx => nomatch hx) hfX hkX hcellA (by rw [hhp, hT]; exact Nat.le_refl _) (msg := .ref sa) rfl
    (g := { method := m, pc := pc + 6, locals := ls, stack := .ref sa :: .ref T.heap.size :: .ref T.heap.size :: rest, locked := none }) rfl hsize rfl rfl (rest := rest) rfl
    (by rw [hb]; exact d6) (by rw [hb]; exact d9) hout hRframes (by simp only [List.map_cons, List.sum_cons, hcat]; omega) hlocks
  obtain ⟨f1, f2⟩ := vx_frame hsame
  rw [hhp] at f1 f2
  have hWs : s.WarmedH U.vm := State.WarmedH.trans hW0 hW
  have hcl : s.vm.findClass cls = some ce.cls := by
    have h9 := hO.cls
    rw [hvm] at h9
    exact h9
  have hall : s.sameButNew ({ U with vm := s.vm } : State) locs mc ms := by
    subst hA
    obtain ⟨e1, e2⟩ := hsame
    rw [State.setFrames_setFrames] at e1
    have h2 : (T.setVm s.vm).sameButNew ({ U with vm := s.vm } : State) [] (0 + 1) (0 + 6) := ⟨e1, e2⟩
    have h3 := X.same.trans h2
    rw [List.append_nil] at h3
    exact h3.mono hc hs
  refine ⟨U, ?_, .threw T.heap.size, hrun, hend, Or.inr ⟨T.heap.size, rfl, cls, ce, locs, hx U hWs.alike f1 (fun q hq => f2 q hq (fun z hz => nomatch hz)), hce, hO.vm, hcl, hWs, hall, hf⟩⟩
  refine st1 _ ?_
  show Steps p.tables e below (T1.setTop { method := m, pc := pc + 3, locals := ls, stack := .ref T.heap.size :: rest, locked := none }) _
  jvm_step X₁.here [X₁.here.top, hexec, d3', Value.category]
  exact X₁.ldcString hexec (own := own) (text := text) (index := is) (a := sa) hown' hstr'.1 hstr'.2
    (g := { method := m, pc := pc + 4, locals := ls, stack := .ref T.heap.size :: .ref T.heap.size :: rest, locked := none }) rfl d4' _ hsteps
/-- 'throw new E("text")', the text by a wide index -/
theorem vx_throwSW {cc : ByteArray} {pc : Nat} (hexec : p.tables.exec = Jvm.exec) (hb : c.code = cc) (hl : l.stackTraces = false) {own cls text : String} {names : List String} {ik is ic mc ms sa : Nat} {A : Nat → Prop}
    (hown : s.vm.findClass own = some m.cls) (hcls : Bundle.fit cls = true) (hnames : ∀ n ∈ names, Bundle.fit n = true)
    (hk : (Cond.classLink own ik cls).before args s = true) (hini : (Cond.initialized cls).before args s = true) (hstr : vk_R own is text sa s) (hat : ∀ w ∈ vx_atS own ic cls names, w.before args s = true)
    (hgood : ∀ w ∈ Cond.classLink own ik cls :: Cond.initialized cls :: vx_atS own ic cls names, vx_ot w = true)
    (hU : vx_Zq Bundle.tN "UNASSIGNED_STACK" Bundle.steD A s s.heap) (hN : vx_Zq Bundle.tN "SUPPRESSED_SENTINEL" Bundle.listD A s s.heap) (hS : va_S A s.heap H locs) (hsize : ls.size = c.maxLocals)
    (d0 : decode cc pc = .ok (.new ik, 3)) (d3 : decode cc (pc + 3) = .ok (.dup, 1)) (d4 : decode cc (pc + 4) = .ok (.ldc_w is, 3)) (d7 : decode cc (pc + 7) = .ok (.invokespecial ic, 3)) (d10 : decode cc (pc + 10) = .ok (.athrow, 1))
    (hout : ∀ x ∈ c.exceptionTable.toList, covers x (pc + 10) = false)
    (hRframes : names.length + 3 < R.frames) (hRlocals : (rest.map fun v => v.category).sum + (13 * (names.length + 1) + 43) ≤ R.locals) (hRcells : cells + 1 ≤ R.cells) (hRslots : slots + 6 ≤ R.slots) (hlocks : meth.locks = false)
    (hx : ∀ t : State, s.vm.Alike t.vm → H.size ≤ t.heap.size → (∀ q : Nat, q < H.size → t.heap[q]? = H[q]?) → XC cls s t)
    (hf : ∀ z ∈ locs, free z.base) (hc : cells + 1 ≤ mc) (hs : slots + 6 ≤ ms) :
    W p l e R s m args below meth c H locs cells slots (vx_MQ below Qc XC args s mc ms free) (F0 m pc ls rest) := by
  intro T hT X
  have htr : e.platform.stackTraces = false := (show e.platform.stackTraces = l.stackTraces by rw [X.admits.platform]).trans hl
  have Y := vx_rebase X (R' := { frames := R.frames, locals := R.locals, cells := 1, slots := 6 }) (Nat.le_refl _) (Nat.le_refl _) hRcells hRslots
  obtain ⟨s', hA⟩ : ∃ z, z = (T.setVm s.vm).setFrames (.invoking m args :: below) := ⟨_, rfl⟩
  rw [← hA] at Y
  have hvm : s'.vm = s.vm := by rw [hA]; rfl
  have hhp : s'.heap = H := by rw [hA]; exact hT
  have hW0 : s.WarmedH s'.vm := by rw [hvm]; exact State.WarmedH.refl s
  have hat' : ∀ w ∈ vx_atS own ic cls names, w.before args s' = true := fun w hw => vx_ot_at hW0 hvm.symm (hgood w (List.mem_cons_of_mem _ (List.mem_cons_of_mem _ hw))) (hat w hw)
  have hk' : (Cond.classLink own ik cls).before args s' = true := vx_ot_at hW0 hvm.symm (hgood _ List.mem_cons_self) hk
  have hini' : (Cond.initialized cls).before args s' = true := vx_ot_at hW0 hvm.symm (hgood _ (List.mem_cons_of_mem _ List.mem_cons_self)) hini
  have hU' : vx_Zq Bundle.tN "UNASSIGNED_STACK" Bundle.steD A s' s'.heap := by rw [hhp]; exact vx_Zq.moved hW0.alike (hU.kept hS.2.1)
  have hN' : vx_Zq Bundle.tN "SUPPRESSED_SENTINEL" Bundle.listD A s' s'.heap := by rw [hhp]; exact vx_Zq.moved hW0.alike (hN.kept hS.2.1)
  have h : ∀ w ∈ Bundle.ownAtoms own ic cls names, w.before args s' = true := vx_own hat' (vx_isRefq hU'.1) (vx_isRefq hN'.1) hU'.2.word hN'.2.word
  have hown' : s'.vm.findClass own = some m.cls := by rw [hvm]; exact hown
  have hins : (Cond.instantiable cls 6).before args s' = true := h _ (by simp [Bundle.ownAtoms])
  obtain ⟨vm₁, cX, kX, hfX, hkX, -, -, X₁, st1⟩ := Y.newCold hexec (own := own) (C := cls) (index := ik) (n := 6) hown' hk' hins hini'
    (g := F0 m pc ls rest) rfl (by rw [hb]; exact d0) (Nat.le_refl _) (Nat.le_refl _)
  generalize hT1 : (T.setVm vm₁).pushCell { cls := cX, slots := kX.instanceTypes.map defaultValue, vm := .none } = T1 at X₁ st1
  have hcat : (Value.ref T.heap.size).category = 1 := rfl
  have hcellA : T1.heap[T.heap.size]? = some (freshCell cX kX) := by rw [← hT1]; exact State.heap_pushCell_size _ _
  have d3' : decode c.code (pc + 3) = .ok (.dup, 1) := by rw [hb]; exact d3
  have d4' : decode c.code (pc + 4) = .ok (.ldc_w is, 3) := by rw [hb]; exact d4
  have hstr' : vk_R own is text sa s' := vk_R.warm hW0 hstr
  obtain ⟨U, hsteps, hrun, hend, hW, hsame, ce, hce, hO⟩ := X₁.ctorThrowS hexec htr (own := own) (cls := cls) (names := names) (ic := ic) hown' hcls hnames h (fun x hx => nomatch hx) hfX hkX hcellA (by rw [hhp, hT]; exact Nat.le_refl _) (msg := .ref sa) rfl
    (g := { method := m, pc := pc + 7, locals := ls, stack := .ref sa :: .ref T.heap.size :: .ref T.heap.size :: rest, locked := none }) rfl hsize rfl rfl (rest := rest) rfl
    (by rw [hb]; exact d7) (by rw [hb]; exact d10) hout hRframes (by simp only [List.map_cons, List.sum_cons, hcat]; omega) hlocks
  obtain ⟨f1, f2⟩ := vx_frame hsame
  rw [hhp] at f1 f2
  have hWs : s.WarmedH U.vm := State.WarmedH.trans hW0 hW
  have hcl : s.vm.findClass cls = some ce.cls := by
    have h9 := hO.cls
    rw [hvm] at h9
    exact h9
  have hall : s.sameButNew ({ U with vm := s.vm } : State) locs mc ms := by
    subst hA
    obtain ⟨e1, e2⟩ := hsame
    rw [State.setFrames_setFrames] at e1
    have h2 : (T.setVm s.vm).sameButNew ({ U with vm := s.vm } : State) [] (0 + 1) (0 + 6) := ⟨e1, e2⟩
    have h3 := X.same.trans h2
    rw [List.append_nil] at h3
    exact h3.mono hc hs
  refine ⟨U, ?_, .threw T.heap.size, hrun, hend, Or.inr ⟨T.heap.size, rfl, cls, ce, locs, hx U hWs.alike f1 (fun q hq => f2 q hq (fun z hz => nomatch hz)), hce, hO.vm, hcl, hWs, hall, hf⟩⟩
  refine st1 _ ?_
  show Steps p.tables e below (T1.setTop { method := m, pc := pc + 3, locals := ls, stack := .ref T.heap.size :: rest, locked := none }) _
  jvm_step X₁.here [X₁.here.top, hexec, d3', Value.category]
  exact X₁.ldcStringW hexec (own := own) (text := text) (index := is) (a := sa) hown' hstr'.1 hstr'.2
    (g := { method := m, pc := pc + 4, locals := ls, stack := .ref T.heap.size :: .ref T.heap.size :: rest, locked := none }) rfl d4' _ hsteps
end Ends
section Bodies
variable {l : Launch}
theorem vx_ofW {y : MethodName} {ws ws' : List Cond} {rm : Room} {Pc : Array Value → State → Prop} {Qc : Array Value → State → Outcome → State → Prop} {XC : String → State → State → Prop} {mc ms : Nat} {free : Addr → Prop} {cc : ByteArray} {maxL : Nat} {ret : Option FieldType}
    (hy : plainName y.cls = true) (hw : ws = Cond.code y cc maxL ret :: ws')
    (body : ∀ p e s m args below meth c s₁, BodyLoose p l y (headSpec ws rm) cc maxL ret e s m args below meth c s₁ → c.maxLocals = maxL → (∀ x ∈ c.exceptionTable.toList, False) → Pc args s →
      W p l e (headSpec ws rm).room s m args below meth c s.heap [] 0 0 (vx_MQ below Qc XC args s mc ms free) (entryFrame m args maxL)) : vx_Met l y ws rm Pc Qc XC mc ms free := by
  refine MetFree.of_bodyS (code := cc) (maxLocals := maxL) (ret := ret) hy ?_ ?_
  · intro args s m h hn
    obtain ⟨meth, c, h1, h2, h3, h4, h5, h6, -, -⟩ := Cond.code_spec hn (atoms_spec (ws := ws) h _ (by rw [hw]; exact List.mem_cons_self))
    exact ⟨meth, c, h1, h2, h3, h4, h5, h6⟩
  · intro p e s m args below meth c s₁ B hml hP _
    have hh0 : s₁.heap = s.heap := by rw [B.state]; rfl
    have ht : ∀ x ∈ c.exceptionTable.toList, False := by
      obtain ⟨meth9, c9, h1, h2, -, -, -, -, h7, -⟩ := Cond.code_spec B.named (atoms_spec (ws := ws) B.pre _ (by rw [hw]; exact List.mem_cons_self))
      cases Option.some.inj (h1.symm.trans B.method)
      cases Option.some.inj (h2.symm.trans (Stand.of_body B).code)
      intro x hx
      rw [Array.isEmpty_iff.mp h7] at hx
      cases hx
    obtain ⟨t, a1, o, b1, b2, b3⟩ := body p e s m args below meth c s₁ B hml ht hP s₁ hh0 (Stand.of_body B)
    exact ⟨t, o, a1, b1, b2, b3⟩
/-- the table of a body with handlers -/
theorem vx_table {p : Program} {x y : MethodName} {S : Spec} {cc bytes : ByteArray} {maxL maxL' : Nat} {ret ret' : Option FieldType} {e : Env} {s s₁ : State} {m : MethodId} {args : Array Value} {below : List Frame} {meth : Method} {c : Code} {hh : List (Nat × Nat × Nat × Nat)}
    (B : BodyLoose p l y S cc maxL ret e s m args below meth c s₁) (h : (Cond.codeWith y bytes maxL' ret' hh).before args s = true) : c.exceptionTable.toList = tableOf hh := by
  obtain ⟨m9, meth9, c9, hn9, h1, h2, -, -, h6, -⟩ := Cond.codeWith_spec h
  cases Option.some.inj (hn9.symm.trans B.named)
  cases Option.some.inj (h1.symm.trans B.method)
  cases Option.some.inj (h2.symm.trans (Stand.of_body B).code)
  rw [← h6, table_eq]
end Bodies
end VXA
/-! ===== END ===== -/
/-! ===== BEGIN a static call of a method with an exception table ===== -/
section VXS
variable {p : Program} {l : Launch} {e : Env} {R : Room} {s : State} {m : MethodId} {args : Array Value} {below : List Frame} {meth : Method} {c : Code} {T : State} {H : Heap} {locs : List Loc} {cells slots : Nat}
abbrev vx_CSW (R : Room) (s : State) (args : Array Value) (own : String) (index : Nat) (y : MethodName) (bytes : ByteArray) (maxL : Nat) (ret : Option FieldType) (hh : List (Nat × Nat × Nat × Nat)) (ws : List Cond) (rm : Room) (mc ms n : Nat) : Prop :=
  (rm.cells = mc ∧ rm.slots = ms ∧ rm.frames + 1 ≤ R.frames ∧ 8 + (maxL + 11) + rm.locals ≤ R.locals ∧ (∀ w ∈ ws, ∀ (a' : Array Value) (U : State), s.WarmedH U.vm → w.before a' U = true) ∧ Cond.codeWith y bytes maxL ret hh ∈ ws) ∧
  (Cond.codeWith y bytes maxL ret hh).before args s = true ∧ (Cond.initialized y.cls).before args s = true ∧ (y.cls ≠ "java/lang/invoke/MethodHandle" ∧ y.cls ≠ "java/lang/invoke/VarHandle") ∧
  (∀ sig, parseMethodDescriptor y.desc = some sig → n = sig.parameters.length) ∧ (Cond.methodLink own index y).before args s = true ∧ (Cond.static y).before args s = true
theorem vx_cwSW {own : String} {index maxL mc ms : Nat} {y : MethodName} {bytes : ByteArray} {ret : Option FieldType} {hh : List (Nat × Nat × Nat × Nat)} {Ts ws ws' : List Cond} {rm : Room} (n : Nat) (ht : ∀ w ∈ Ts, w.before args s = true) (hT : GoodIn Ts (va_wsS own index y ws)) (hw : ws = Cond.codeWith y bytes maxL ret hh :: ws') (hrc : rm.cells = mc) (hrs : rm.slots = ms)
    (hd : y.cls ≠ "java/lang/invoke/MethodHandle" ∧ y.cls ≠ "java/lang/invoke/VarHandle" ∧ (parseMethodDescriptor y.desc).map (fun d => d.parameters.length) = some n) (hR : rm.frames + 1 ≤ R.frames ∧ 8 + (maxL + 11) + rm.locals ≤ R.locals) :
    vx_CSW R s args own index y bytes maxL ret hh ws rm mc ms n := by
  have ok : ∀ w ∈ va_wsS own index y ws, w.before args s = true := fun w h => ht w (hT w h).1
  have hG : GoodIn Ts ws := fun w h => hT w (by unfold va_wsS; exact List.mem_append_right _ h)
  have hc : Cond.codeWith y bytes maxL ret hh ∈ ws := by rw [hw]; exact List.mem_cons_self
  refine ⟨⟨hrc, hrs, hR.1, hR.2, pay_in ht hG, hc⟩, ht _ (hG _ hc).1, ok _ (by simp [va_wsS]), ⟨hd.1, hd.2.1⟩, fun sig h => ?_, ok _ (by simp [va_wsS]), ok _ (by simp [va_wsS])⟩
  have h2 := hd.2.2
  rw [h] at h2
  exact (Option.some.inj h2).symm
theorem vx_callSW (X : Stand p l e R s m args below meth c T locs cells slots) (hexec : p.tables.exec = Jvm.exec) {own : String} {index : Nat} {y : MethodName} {bytes : ByteArray} {maxL : Nat} {ret : Option FieldType} {hh : List (Nat × Nat × Nat × Nat)}
    (hown : s.vm.findClass own = some m.cls) (hlink : (Cond.methodLink own index y).before args s = true) (hstat : (Cond.static y).before args s = true) (hinit : (Cond.initialized y.cls).before args s = true)
    (hcode : (Cond.codeWith y bytes maxL ret hh).before args s = true) (hy : y.cls ≠ "java/lang/invoke/MethodHandle" ∧ y.cls ≠ "java/lang/invoke/VarHandle")
    {W9 : Nat} {Pre : Pt → Array Value → Prop} {Post : Pt → Array Value → Option Value → Pt → Prop} (hK : Back l R p e below s args y 3 W9 Pre Post)
    {g : JFrame} (hg : g.method = m) (hsize : g.locals.size = c.maxLocals) {argsL rest : List Value} (hlen : ∀ sig, parseMethodDescriptor y.desc = some sig → argsL.length = sig.parameters.length)
    (hstack : g.stack = argsL.reverse ++ rest) (hW : 2 * g.monitorRoom + (rest.map fun v => v.category).sum ≤ W9) (hdg : decode c.code g.pc = .ok (.invokestatic index, 3))
    (hpre : ∀ vm₁, s.WarmedH vm₁ → Pre ⟨T.setVm vm₁, locs, cells, slots⟩ argsL.toArray) :
    ∃ (v : Option Value) (vm₁ : Vm) (B : Pt), s.WarmedH vm₁ ∧ Stand p l e R s m args below meth c B.U B.locs B.cells B.slots ∧ Post ⟨T.setVm vm₁, locs, cells, slots⟩ argsL.toArray v B ∧
      ∀ target, Steps p.tables e below (B.U.setTop { g with pc := g.pc + 3, stack := v.toList ++ rest }) target → Steps p.tables e below (T.setTop g) target := by
  obtain ⟨mk, methM, cM, hnamed, hmethM, -, -, -, -, -, -, hsigM⟩ := Cond.codeWith_spec hcode
  have hstatic : methM.isStatic = true := Cond.static_spec hnamed hmethM hstat
  obtain ⟨kP, hkP, -⟩ := className_of_methodNamed hnamed
  have hinitP : kP.init = .initialized := Cond.initialized_spec (findClass_of_methodNamed hnamed) hkP hinit
  obtain ⟨vm₁, X₁, hstep₁⟩ := X.invokestatic hexec hown hlink hnamed hmethM hstatic hkP hinitP hy (g := g) hg (argsL := argsL) (rest := rest) (hlen _ hsigM) hstack hdg
  obtain ⟨v, B, X', hpost, hsteps⟩ := hK m meth c ⟨T.setVm vm₁, locs, cells, slots⟩ { g with stack := rest } (.invokestatic index) mk argsL.toArray X₁ hg hsize hdg hW (X₁.named hnamed) (hpre vm₁ X₁.warmed)
  exact ⟨v, vm₁, B, X₁.warmed, X', hpost, fun target h => hstep₁ _ fun acts => by rw [doInvoke_state]; exact hsteps.trans h⟩
theorem vx_runSW {y : MethodName} {bytes cc : ByteArray} {maxL nL mc ms n index : Nat} {ret : Option FieldType} {hh : List (Nat × Nat × Nat × Nat)} {ws : List Cond} {rm : Room} {Pc : Array Value → State → Prop} {Qc : Array Value → State → Outcome → State → Prop} {free : Addr → Prop} {Ts : List Cond} {own : String} {As rest : List Value} {g : JFrame}
    (S : CallFix p m c cc nL s args Ts own) (hM : Met l y ws rm Pc Qc mc ms free) (cw : vx_CSW R s args own index y bytes maxL ret hh ws rm mc ms n) (hp : PreS s H Pc As)
    (hg : g.method = m) (hn : As.length = n) (hsize : g.locals.size = nL) (hstack : g.stack = As.reverse ++ rest) (hW : 2 * g.monitorRoom + (rest.map fun v => v.category).sum ≤ 8) (hdg : decode cc g.pc = .ok (.invokestatic index, 3)) (hf : cells + mc ≤ R.cells ∧ slots + ms ≤ R.slots) :
    va_Run p l e R s m args below meth c H locs cells slots mc ms g rest (Qc As.toArray) (free) := by
  obtain ⟨⟨hrc, hrs, hfr, hlo, hws, hcw⟩, hcode, hini, hy, hlen, hl, hstt⟩ := cw
  have hK : Back l R p e below s args y 3 8 (PreOf R mc ms Pc) (PostOf Qc mc ms free) := va_backW (hh := hh) (bytes := bytes) (maxL := maxL) (ret := ret) hM hp.1 hrc hrs hfr hlo hws hcw (fun a' U hW => word_at hW (Or.inl (by first | rfl | simp [Cond.onTables, Cond.keeps, Cond.steady])) hini)
  obtain ⟨hx, hb, hml, ho, -⟩ := S
  intro T hT X
  obtain ⟨v, vm₁, ⟨U', l2, c2, s2⟩, hW₁, X', ⟨g', mk, t, L, e1, e2, hq, h1, hL, h2, h3⟩, st⟩ := vx_callSW X hx (hh := hh) (bytes := bytes) (maxL := maxL) (ret := ret) ho hl hstt hini hcode hy hK hg (hsize.trans hml.symm) (argsL := As) (rest := rest) (fun sig h => hn.trans (hlen sig h)) hstack hW (by rw [hb]; exact hdg)
    (fun vm₁ hW₁ => ⟨hf.1, hf.2, hp.2 (T.setVm vm₁) hT hW₁⟩)
  dsimp only [Pt.U, Pt.locs, Pt.cells, Pt.slots] at X' e1 e2 h1 h2 h3 st
  subst h1; subst h2; subst h3
  exact ⟨v, (T.setVm vm₁).calling g' mk As.toArray, t, U', L, hT, X', hL, e1, e2, hq, st⟩
/-- not caught here, past rows that name other classes: it goes on to the caller -/
theorem vx_outP {p : Program} {l : Launch} {e : Env} {R : Room} {s : State} {m : MethodId} {args : Array Value} {below : List Frame} {meth : Method} {c : Code} {H : Heap} {locs : List Loc} {cells slots : Nat} {free : Addr → Prop} {ls : Array Slot} {rest : List Value} {Qc : Array Value → State → Outcome → State → Prop} {XC : String → State → State → Prop}
    {pc : Nat} {own E : String} {ce : Cell} {q : Addr} {mc ms : Nat} (hown : s.vm.findClass own = some m.cls) (hlocks : meth.locks = false)
    (hpass : ∀ z ∈ c.exceptionTable.toList, covers z pc = false ∨ (z.catchType ≠ 0 ∧ ∃ nm : String, (Cond.classLink own z.catchType nm).before args s = true ∧ va_Nc E nm s)) (hcell : H[q]? = some ce) (hv : ce.vm = .none) (hcl : s.vm.findClass E = some ce.cls)
    (hx : ∀ t : State, t.heap = H → s.vm.Alike t.vm → XC E s t) (hf : ∀ z ∈ locs, free z.base) (hc : cells ≤ mc) (hs : slots ≤ ms) :
    vx_W p l e R s m args below meth c H locs cells slots (vx_MQ below Qc XC args s mc ms free) (F0 m pc ls rest) q := by
  intro T hT X
  have hpl : e.platform.magicAccessors = ({} : Platform).magicAccessors := by rw [X.admits.platform]
  obtain ⟨vm', hW', X', st⟩ := X.outThrough hlocks q (g := F0 m pc ls rest) rfl rfl rfl (cell := ce) (by rw [hT]; exact hcell) (by rw [hv]; rfl)
    (by obtain ⟨k9, h9, -⟩ := Vm.findClass_spec hcl; exact ⟨k9, h9⟩) (fun z hz => by
      rcases hpass z hz with h | ⟨hz0, nm, hl1, hn1⟩
      · exact Or.inl h
      · obtain ⟨c6, hc6, hcl6⟩ := Cond.classLink_spec hown hl1 e.platform hpl
        obtain ⟨a8, b8, h1, h2, h3⟩ := hn1
        cases Option.some.inj (h1.symm.trans hcl)
        cases Option.some.inj (h2.symm.trans hc6)
        exact Or.inr ⟨hz0, _, hcl6, h3⟩)
  obtain ⟨g₀, hfr⟩ := X'.frames_eq
  have hcell9 : ((T.setVm vm').setFrames (.throwing q :: below)).heap[q]? = some ce := by
    show T.heap[q]? = some ce
    rw [hT]; exact hcell
  have hend : Ended ((T.setVm vm').setFrames (.throwing q :: below)) below (.threw q) := State.frames_setFrames _ (State.cur_lt_of_frames hfr)
  refine ⟨(T.setVm vm').setFrames (.throwing q :: below), ?_, .threw q, X'.here.running, hend, Or.inr ⟨q, rfl, E, ce, locs, hx _ hT (X'.ends _).1.alike, hcell9, hv, hcl, (X'.ends _).1, (X'.ends _).2.mono hc hs, hf⟩⟩
  rw [X.pushThrowing_eq]
  exact st
/-- a thing of a world lies in the heap -/
theorem vx_lt {D : va_G} {cl : List vw_C} {ws : va_W} {H1 : Heap} (h : va_P D cl ws H1) {k : Nat} {q : Nat × va_E} (hk : ws[k]? = some q) : q.1 < H1.size := (h k q hk).lt
end VXS
/-! ===== END ===== -/
/-! ===== BEGIN methods with a table of their own: called by a name, returning or throwing ===== -/
section VXH
/-! vx_backW, vx_callVX, vx_callSX, vx_callVW, vx_runVW, vx_runVX, vx_runSX, vx_ofWH follow the same proofs as their sisters above (Free/Laws.lean, Shelf42/LK1.lean); vx_outP calls Shelf42/NT130.lean (outThrough). -/
section
variable {l : Launch} {R : Room} {p : Program} {e : Env} {below : List Frame} {s : State} {sargs : Array Value} {y : MethodName} {len W9 : Nat}
theorem vx_backW {ws : List Cond} {rm : Room} {Pc : Array Value → State → Prop} {Qc : Array Value → State → Outcome → State → Prop} {XC : String → State → State → Prop} {mc ms : Nat} {free : Addr → Prop} {bytes : ByteArray} {maxL : Nat} {ret : Option FieldType} {hh : List (Nat × Nat × Nat × Nat)}
    (hM : vx_Met l y ws rm Pc Qc XC mc ms free) (hblind : FrameBlind Pc) (hrc : rm.cells = mc) (hrs : rm.slots = ms)
    (hframes : rm.frames + 1 ≤ R.frames) (hlocals : W9 + (maxL + 11) + rm.locals ≤ R.locals)
    (hws : ∀ w ∈ ws, ∀ a' U, s.WarmedH U.vm → w.before a' U = true) (hcode : Cond.codeWith y bytes maxL ret hh ∈ ws) (hinit : ∀ a' U, s.WarmedH U.vm → (Cond.initialized y.cls).before a' U = true) :
    vx_Back l R p e below s sargs y len W9 (PreOf R mc ms Pc) (PostOf Qc mc ms free) (vx_Post XC mc ms free) := by
  intro m meth c A g ig mk a X hg hsize hdg hW hn hp
  have h1 : (headSpec ws rm).pre.before a A.U = true := atoms_intro fun w hw => hws w hw _ _ X.warmed
  have h2 : (Cond.codeWith y bytes maxL ret hh).before a A.U = true := hws _ hcode _ _ X.warmed
  have h3 : (Cond.initialized y.cls).before a A.U = true := hinit _ _ X.warmed
  have h4 : A.cells + (headSpec ws rm).room.cells ≤ R.cells := by rw [show (headSpec ws rm).room.cells = mc from hrc]; exact hp.1
  have h5 : A.slots + (headSpec ws rm).room.slots ≤ R.slots := by rw [show (headSpec ws rm).room.slots = ms from hrs]; exact hp.2.1
  have hPc : Pc a (A.U.calling g mk a) := hblind _ _ _ _ hp.2.2
  obtain ⟨U, Ls, c0, s0⟩ := A
  dsimp only [Pt.U, Pt.locs, Pt.cells, Pt.slots] at h1 h2 h3 h4 h5 X hn hPc ⊢
  obtain ⟨m9, methY, cY, hn9, hmY, hcY, -, hlY, -⟩ := Cond.codeWith_spec h2
  cases Option.some.inj (hn9.symm.trans hn)
  obtain ⟨kY, hkY, -⟩ := className_of_methodNamed hn
  have hinitY : kY.init = .initialized := Cond.initialized_spec (findClass_of_methodNamed hn) hkY h3
  have h : At U g.method c below := by rw [hg]; exact X.here
  have hlocals9 : W9 + (maxL + 11) + (headSpec ws rm).room.locals ≤ R.locals := hlocals
  have happ : (headSpec ws rm).appliesLoose y e.platform (U.calling g mk a) = true :=
    Spec.appliesLoose_calling (g := g) h hdg hn hkY hinitY
      (X.room_calling (g := g) (R' := (headSpec ws rm).room) hsize hmY hcY hframes (by rw [hlY]; omega) h4 h5) h1
  obtain ⟨mid, hmid⟩ := h.above
  have hfr : (U.setTop g).frames = (.java g :: mid) ++ below := by rw [State.frames_setTop' g h.top, hmid]; rfl
  obtain ⟨o, s₂, hsteps, -, hend, hq⟩ := Steps.callFree hM p X.admits X.cas X.clock (acts := []) hfr happ hPc trivial
  have hq' : vx_Q Qc XC mc ms free a (U.calling g mk a) o s₂ := hq
  rw [State.frames_setTop' g h.top] at hend
  obtain ⟨g₀, hg0⟩ := Option.isSome_iff_exists.mp h.top
  obtain ⟨r, hr⟩ := State.topJava?_eq_some.mp hg0
  have hr' : (({ U with heap := s₂.heap, slotsUsed := s₂.slotsUsed } : State).setVm s₂.vm).frames = .java g₀ :: r := hr
  rcases hq' with ⟨hqc, L, hfe, hL⟩ | ⟨q, rfl, E, ce, L, hx, hce, hcv, hcl, hW₂, hsm, hL⟩
  · obtain ⟨⟨v, rfl⟩, hW₂, e2, q2, q3, q4, q5, q6⟩ := id hfe
    have e3 : s₂ = ({ (U.calling g mk a).setFrames s₂.frames with heap := s₂.heap, slotsUsed := s₂.slotsUsed } : State).setVm s₂.vm := by
      have : s₂ = ({ s₂ with vm := (U.calling g mk a).vm } : State).setVm s₂.vm := rfl
      rw [e2] at this
      exact this
    obtain ⟨c₂, i₂, len₂, hc₂, hd₂, hf₂⟩ := hend
    have hW' : U.WarmedH s₂.vm := hW₂
    have hcc : c₂ = c := by
      have h1 : s₂.code? g.method = U.code? g.method := by
        rw [State.code?_eq, State.code?_eq, hW'.alike.method?]
      exact Option.some.inj (hc₂.symm.trans (h1.trans h.code))
    subst hcc
    have hlen : len₂ = len := by rw [hdg] at hd₂; cases hd₂; rfl
    subst hlen
    have hs₂ : s₂ = (({ U with heap := s₂.heap, slotsUsed := s₂.slotsUsed } : State).setVm s₂.vm).setTop { g with pc := g.pc + len₂, stack := v.toList ++ g.stack } := by
      refine e3.trans ?_
      rw [hf₂, State.calling_eq h.top, State.setFrames_setFrames, State.setTop_of_frames _ hr', hr]
      rfl
    have hsame : U.sameButNew ({ U with heap := s₂.heap, slotsUsed := s₂.slotsUsed } : State) L mc ms := by
      refine ⟨?_, q2, q3, q4, q5, q6⟩
      obtain ⟨t, ht, -⟩ := State.frames_cons hr
      show ({ U with heap := s₂.heap, slotsUsed := s₂.slotsUsed } : State) = { U.setFrames U.frames with heap := s₂.heap, slotsUsed := s₂.slotsUsed }
      rw [State.setFrames_self ht]
    subst hg
    refine Or.inl ⟨v, ⟨(({ U with heap := s₂.heap, slotsUsed := s₂.slotsUsed } : State).setVm s₂.vm), Ls ++ L, c0 + mc, s0 + ms⟩,
      ⟨X.admits, X.cas, X.clock, X.frames, X.room, X.hears, X.method, X.code, (X.here.setHeapUsed s₂.heap s₂.slotsUsed).setVm hW'.alike, X.tail, State.WarmedH.trans X.warmed hW', X.limits, X.bytes, X.same.trans (hsame.setVm s.vm)⟩,
      ⟨g, mk, s₂, L, rfl, rfl, hqc, rfl, hL, rfl, rfl⟩, ?_⟩
    show Steps p.tables e below _ ((({ U with heap := s₂.heap, slotsUsed := s₂.slotsUsed } : State).setVm s₂.vm).setTop { g with pc := g.pc + len₂, stack := v.toList ++ g.stack })
    rw [← hs₂]
    exact hsteps
  · obtain ⟨e2, q2, q3, q4, q5, q6⟩ := id hsm
    have e3 : s₂ = ({ (U.calling g mk a).setFrames s₂.frames with heap := s₂.heap, slotsUsed := s₂.slotsUsed } : State).setVm s₂.vm := by
      have : s₂ = ({ s₂ with vm := (U.calling g mk a).vm } : State).setVm s₂.vm := rfl
      rw [e2] at this
      exact this
    have hf₂ : s₂.frames = .throwing q :: .java g :: U.frames.tail := hend
    have hW' : U.WarmedH s₂.vm := hW₂
    have hs₂ : s₂ = ((({ U with heap := s₂.heap, slotsUsed := s₂.slotsUsed } : State).setVm s₂.vm).setTop g).pushFrame (.throwing q) := by
      refine e3.trans ?_
      rw [hf₂, State.calling_eq h.top, State.setFrames_setFrames, State.pushFrame, State.frames_setTop _ hr', State.setTop_of_frames _ hr', State.setFrames_setFrames, hr]
      rfl
    have hsame : U.sameButNew ({ U with heap := s₂.heap, slotsUsed := s₂.slotsUsed } : State) L mc ms := by
      refine ⟨?_, q2, q3, q4, q5, q6⟩
      obtain ⟨t, ht, -⟩ := State.frames_cons hr
      show ({ U with heap := s₂.heap, slotsUsed := s₂.slotsUsed } : State) = { U.setFrames U.frames with heap := s₂.heap, slotsUsed := s₂.slotsUsed }
      rw [State.setFrames_self ht]
    subst hg
    refine Or.inr ⟨q, ⟨(({ U with heap := s₂.heap, slotsUsed := s₂.slotsUsed } : State).setVm s₂.vm), Ls ++ L, c0 + mc, s0 + ms⟩,
      ⟨X.admits, X.cas, X.clock, X.frames, X.room, X.hears, X.method, X.code, (X.here.setHeapUsed s₂.heap s₂.slotsUsed).setVm hW'.alike, X.tail, State.WarmedH.trans X.warmed hW', X.limits, X.bytes, X.same.trans (hsame.setVm s.vm)⟩,
      ⟨g, mk, s₂, L, E, ce, rfl, rfl, hx, hce, hcv, hcl, rfl, hL, rfl, rfl⟩, ?_⟩
    show Steps p.tables e below _ (((({ U with heap := s₂.heap, slotsUsed := s₂.slotsUsed } : State).setVm s₂.vm).setTop g).pushFrame (.throwing q))
    rw [← hs₂]
    exact hsteps
end
variable {p : Program} {l : Launch} {e : Env} {R : Room} {s : State} {m : MethodId} {args : Array Value} {below : List Frame} {meth : Method} {c : Code} {T : State} {H : Heap} {locs : List Loc} {cells slots : Nat}
theorem vx_callVX (X : Stand p l e R s m args below meth c T locs cells slots) (hexec : p.tables.exec = Jvm.exec) {own C : String} {index : Nat} {y : MethodName} {bytes : ByteArray} {maxL : Nat} {ret : Option FieldType} {hh : List (Nat × Nat × Nat × Nat)}
    (hown : s.vm.findClass own = some m.cls) (hlink : (Cond.methodLink own index y).before args s = true) (hinst : (Cond.instanceMethod y).before args s = true) (hsel : (Cond.selects C y y).before args s = true)
    (hcode : (Cond.codeWith y bytes maxL ret hh).before args s = true) (hy : y.cls ≠ "java/lang/invoke/MethodHandle" ∧ y.cls ≠ "java/lang/invoke/VarHandle")
    {W9 : Nat} {Pre : Pt → Array Value → Prop} {Post : Pt → Array Value → Option Value → Pt → Prop} {PostX : Pt → Array Value → Addr → Pt → Prop} (hK : vx_Back l R p e below s args y 3 W9 Pre Post PostX)
    {b : Addr} {cellB : Cell} (hcell : T.heap[b]? = some cellB) (hobj : cellB.vm.isStatics = false) (hcls : s.vm.findClass C = some cellB.cls)
    {g : JFrame} (hg : g.method = m) (hsize : g.locals.size = c.maxLocals) {argsL rest : List Value} (hlen : ∀ sig, parseMethodDescriptor y.desc = some sig → argsL.length = sig.parameters.length)
    (hstack : g.stack = argsL.reverse ++ .ref b :: rest) (hW : 2 * g.monitorRoom + (rest.map fun v => v.category).sum ≤ W9) (hdg : decode c.code g.pc = .ok (.invokevirtual index, 3))
    (hpre : ∀ vm₁, s.WarmedH vm₁ → Pre ⟨T.setVm vm₁, locs, cells, slots⟩ (Value.ref b :: argsL).toArray) :
    (∃ (v : Option Value) (vm₁ : Vm) (B : Pt), s.WarmedH vm₁ ∧ Stand p l e R s m args below meth c B.U B.locs B.cells B.slots ∧ Post ⟨T.setVm vm₁, locs, cells, slots⟩ (Value.ref b :: argsL).toArray v B ∧
      ∀ target, Steps p.tables e below (B.U.setTop { g with pc := g.pc + 3, stack := v.toList ++ rest }) target → Steps p.tables e below (T.setTop g) target) ∨
    (∃ (q : Addr) (vm₁ : Vm) (B : Pt), s.WarmedH vm₁ ∧ Stand p l e R s m args below meth c B.U B.locs B.cells B.slots ∧ PostX ⟨T.setVm vm₁, locs, cells, slots⟩ (Value.ref b :: argsL).toArray q B ∧
      Steps p.tables e below (T.setTop g) ((B.U.setTop { g with stack := rest }).pushFrame (.throwing q))) := by
  obtain ⟨mk, methM, hnamed, hmethM, hstM, habM⟩ := Cond.instanceMethod_spec hinst
  obtain ⟨m8, methM', cM, hn8, hmethM', -, -, -, -, -, -, hsigM⟩ := Cond.codeWith_spec hcode
  cases Option.some.inj (hn8.symm.trans hnamed)
  cases hmethM.symm.trans hmethM'
  obtain ⟨c2, r2, m2, q1, q2, q3, q4, kP, hkP, hkPi⟩ := Cond.selects_spec hsel
  cases hcls.symm.trans q1
  cases (State.methodFound?_of_named hnamed hy).symm.trans q2
  cases hnamed.symm.trans q3
  have hselP : selectMethod e.platform s.vm cellB.cls mk = .method mk := by rw [Launch.admits_selectMethod X.admits]; exact q4
  obtain ⟨vm₁, X₁, hstep₁⟩ := X.invokevirtual hexec hown hlink hnamed hmethM hstM hkP hkPi hy (a := b) (cell := cellB) hcell
    (fun z h => by rw [h] at hobj; cases hobj) hselP hmethM habM hkP hkPi (g := g) hg (argsL := argsL) (rest := rest) (hlen _ hsigM) hstack hdg
  rcases hK m meth c ⟨T.setVm vm₁, locs, cells, slots⟩ { g with stack := rest } (.invokevirtual index) mk (Value.ref b :: argsL).toArray X₁ hg hsize hdg hW (X₁.named hnamed) (hpre vm₁ X₁.warmed) with ⟨v, B, X', hpost, hsteps⟩ | ⟨q, B, X', hpost, hsteps⟩
  · exact Or.inl ⟨v, vm₁, B, X₁.warmed, X', hpost, fun target h => hstep₁ _ fun acts => by rw [doInvoke_state]; exact hsteps.trans h⟩
  · exact Or.inr ⟨q, vm₁, B, X₁.warmed, X', hpost, hstep₁ _ fun acts => by rw [doInvoke_state]; exact hsteps⟩
theorem vx_callSX (X : Stand p l e R s m args below meth c T locs cells slots) (hexec : p.tables.exec = Jvm.exec) {own : String} {index : Nat} {y : MethodName} {bytes : ByteArray} {maxL : Nat} {ret : Option FieldType} {hh : List (Nat × Nat × Nat × Nat)}
    (hown : s.vm.findClass own = some m.cls) (hlink : (Cond.methodLink own index y).before args s = true) (hstat : (Cond.static y).before args s = true) (hinit : (Cond.initialized y.cls).before args s = true)
    (hcode : (Cond.codeWith y bytes maxL ret hh).before args s = true) (hy : y.cls ≠ "java/lang/invoke/MethodHandle" ∧ y.cls ≠ "java/lang/invoke/VarHandle")
    {W9 : Nat} {Pre : Pt → Array Value → Prop} {Post : Pt → Array Value → Option Value → Pt → Prop} {PostX : Pt → Array Value → Addr → Pt → Prop} (hK : vx_Back l R p e below s args y 3 W9 Pre Post PostX)
    {g : JFrame} (hg : g.method = m) (hsize : g.locals.size = c.maxLocals) {argsL rest : List Value} (hlen : ∀ sig, parseMethodDescriptor y.desc = some sig → argsL.length = sig.parameters.length)
    (hstack : g.stack = argsL.reverse ++ rest) (hW : 2 * g.monitorRoom + (rest.map fun v => v.category).sum ≤ W9) (hdg : decode c.code g.pc = .ok (.invokestatic index, 3))
    (hpre : ∀ vm₁, s.WarmedH vm₁ → Pre ⟨T.setVm vm₁, locs, cells, slots⟩ argsL.toArray) :
    (∃ (v : Option Value) (vm₁ : Vm) (B : Pt), s.WarmedH vm₁ ∧ Stand p l e R s m args below meth c B.U B.locs B.cells B.slots ∧ Post ⟨T.setVm vm₁, locs, cells, slots⟩ argsL.toArray v B ∧
      ∀ target, Steps p.tables e below (B.U.setTop { g with pc := g.pc + 3, stack := v.toList ++ rest }) target → Steps p.tables e below (T.setTop g) target) ∨
    (∃ (q : Addr) (vm₁ : Vm) (B : Pt), s.WarmedH vm₁ ∧ Stand p l e R s m args below meth c B.U B.locs B.cells B.slots ∧ PostX ⟨T.setVm vm₁, locs, cells, slots⟩ argsL.toArray q B ∧
      Steps p.tables e below (T.setTop g) ((B.U.setTop { g with stack := rest }).pushFrame (.throwing q))) := by
  obtain ⟨mk, methM, cM, hnamed, hmethM, -, -, -, -, -, -, hsigM⟩ := Cond.codeWith_spec hcode
  have hstatic : methM.isStatic = true := Cond.static_spec hnamed hmethM hstat
  obtain ⟨kP, hkP, -⟩ := className_of_methodNamed hnamed
  have hinitP : kP.init = .initialized := Cond.initialized_spec (findClass_of_methodNamed hnamed) hkP hinit
  obtain ⟨vm₁, X₁, hstep₁⟩ := X.invokestatic hexec hown hlink hnamed hmethM hstatic hkP hinitP hy (g := g) hg (argsL := argsL) (rest := rest) (hlen _ hsigM) hstack hdg
  rcases hK m meth c ⟨T.setVm vm₁, locs, cells, slots⟩ { g with stack := rest } (.invokestatic index) mk argsL.toArray X₁ hg hsize hdg hW (X₁.named hnamed) (hpre vm₁ X₁.warmed) with ⟨v, B, X', hpost, hsteps⟩ | ⟨q, B, X', hpost, hsteps⟩
  · exact Or.inl ⟨v, vm₁, B, X₁.warmed, X', hpost, fun target h => hstep₁ _ fun acts => by rw [doInvoke_state]; exact hsteps.trans h⟩
  · exact Or.inr ⟨q, vm₁, B, X₁.warmed, X', hpost, hstep₁ _ fun acts => by rw [doInvoke_state]; exact hsteps⟩
theorem vx_callVW (X : Stand p l e R s m args below meth c T locs cells slots) (hexec : p.tables.exec = Jvm.exec) {own C : String} {index : Nat} {y : MethodName} {bytes : ByteArray} {maxL : Nat} {ret : Option FieldType} {hh : List (Nat × Nat × Nat × Nat)}
    (hown : s.vm.findClass own = some m.cls) (hlink : (Cond.methodLink own index y).before args s = true) (hinst : (Cond.instanceMethod y).before args s = true) (hsel : (Cond.selects C y y).before args s = true)
    (hcode : (Cond.codeWith y bytes maxL ret hh).before args s = true) (hy : y.cls ≠ "java/lang/invoke/MethodHandle" ∧ y.cls ≠ "java/lang/invoke/VarHandle")
    {W9 : Nat} {Pre : Pt → Array Value → Prop} {Post : Pt → Array Value → Option Value → Pt → Prop} (hK : Back l R p e below s args y 3 W9 Pre Post)
    {b : Addr} {cellB : Cell} (hcell : T.heap[b]? = some cellB) (hobj : cellB.vm.isStatics = false) (hcls : s.vm.findClass C = some cellB.cls)
    {g : JFrame} (hg : g.method = m) (hsize : g.locals.size = c.maxLocals) {argsL rest : List Value} (hlen : ∀ sig, parseMethodDescriptor y.desc = some sig → argsL.length = sig.parameters.length)
    (hstack : g.stack = argsL.reverse ++ .ref b :: rest) (hW : 2 * g.monitorRoom + (rest.map fun v => v.category).sum ≤ W9) (hdg : decode c.code g.pc = .ok (.invokevirtual index, 3))
    (hpre : ∀ vm₁, s.WarmedH vm₁ → Pre ⟨T.setVm vm₁, locs, cells, slots⟩ (Value.ref b :: argsL).toArray) :
    ∃ (v : Option Value) (vm₁ : Vm) (B : Pt), s.WarmedH vm₁ ∧ Stand p l e R s m args below meth c B.U B.locs B.cells B.slots ∧ Post ⟨T.setVm vm₁, locs, cells, slots⟩ (Value.ref b :: argsL).toArray v B ∧
      ∀ target, Steps p.tables e below (B.U.setTop { g with pc := g.pc + 3, stack := v.toList ++ rest }) target → Steps p.tables e below (T.setTop g) target := by
  obtain ⟨mk, methM, hnamed, hmethM, hstM, habM⟩ := Cond.instanceMethod_spec hinst
  obtain ⟨m8, methM', cM, hn8, hmethM', -, -, -, -, -, -, hsigM⟩ := Cond.codeWith_spec hcode
  cases Option.some.inj (hn8.symm.trans hnamed)
  cases hmethM.symm.trans hmethM'
  obtain ⟨c2, r2, m2, q1, q2, q3, q4, kP, hkP, hkPi⟩ := Cond.selects_spec hsel
  cases hcls.symm.trans q1
  cases (State.methodFound?_of_named hnamed hy).symm.trans q2
  cases hnamed.symm.trans q3
  have hselP : selectMethod e.platform s.vm cellB.cls mk = .method mk := by rw [Launch.admits_selectMethod X.admits]; exact q4
  obtain ⟨vm₁, X₁, hstep₁⟩ := X.invokevirtual hexec hown hlink hnamed hmethM hstM hkP hkPi hy (a := b) (cell := cellB) hcell
    (fun z h => by rw [h] at hobj; cases hobj) hselP hmethM habM hkP hkPi (g := g) hg (argsL := argsL) (rest := rest) (hlen _ hsigM) hstack hdg
  obtain ⟨v, B, X', hpost, hsteps⟩ := hK m meth c ⟨T.setVm vm₁, locs, cells, slots⟩ { g with stack := rest } (.invokevirtual index) mk (Value.ref b :: argsL).toArray X₁ hg hsize hdg hW (X₁.named hnamed) (hpre vm₁ X₁.warmed)
  exact ⟨v, vm₁, B, X₁.warmed, X', hpost, fun target h => hstep₁ _ fun acts => by rw [doInvoke_state]; exact hsteps.trans h⟩
abbrev vx_CVW (R : Room) (s : State) (args : Array Value) (own C : String) (index : Nat) (y : MethodName) (bytes : ByteArray) (maxL : Nat) (ret : Option FieldType) (hh : List (Nat × Nat × Nat × Nat)) (ws : List Cond) (rm : Room) (mc ms n : Nat) : Prop :=
  (rm.cells = mc ∧ rm.slots = ms ∧ rm.frames + 1 ≤ R.frames ∧ 8 + (maxL + 11) + rm.locals ≤ R.locals ∧ (∀ w ∈ ws, ∀ (a' : Array Value) (U : State), s.WarmedH U.vm → w.before a' U = true) ∧ Cond.codeWith y bytes maxL ret hh ∈ ws) ∧
  (Cond.codeWith y bytes maxL ret hh).before args s = true ∧ (Cond.initialized y.cls).before args s = true ∧ (y.cls ≠ "java/lang/invoke/MethodHandle" ∧ y.cls ≠ "java/lang/invoke/VarHandle") ∧
  (∀ sig, parseMethodDescriptor y.desc = some sig → n = sig.parameters.length) ∧ (Cond.methodLink own index y).before args s = true ∧ (Cond.instanceMethod y).before args s = true ∧ (Cond.selects C y y).before args s = true
theorem vx_cwVW {own C : String} {index maxL mc ms : Nat} {y : MethodName} {bytes : ByteArray} {ret : Option FieldType} {hh : List (Nat × Nat × Nat × Nat)} {Ts ws ws' : List Cond} {rm : Room} (n : Nat) (ht : ∀ w ∈ Ts, w.before args s = true) (hT : GoodIn Ts (wsV own index C y ws)) (hw : ws = Cond.codeWith y bytes maxL ret hh :: ws') (hrc : rm.cells = mc) (hrs : rm.slots = ms)
    (hd : y.cls = C ∧ y.cls ≠ "java/lang/invoke/MethodHandle" ∧ y.cls ≠ "java/lang/invoke/VarHandle" ∧ (parseMethodDescriptor y.desc).map (fun d => d.parameters.length) = some n) (hR : rm.frames + 1 ≤ R.frames ∧ 8 + (maxL + 11) + rm.locals ≤ R.locals) :
    vx_CVW R s args own C index y bytes maxL ret hh ws rm mc ms n := by
  obtain ⟨hC, hd⟩ := hd
  subst hC
  have ok : ∀ w ∈ wsV own index y.cls y ws, w.before args s = true := fun w h => ht w (hT w h).1
  have hG : GoodIn Ts ws := fun w h => hT w (by unfold wsV; exact List.mem_append_right _ h)
  have hc : Cond.codeWith y bytes maxL ret hh ∈ ws := by rw [hw]; exact List.mem_cons_self
  refine ⟨⟨hrc, hrs, hR.1, hR.2, pay_in ht hG, hc⟩, ht _ (hG _ hc).1, ok _ (by simp [wsV]), ⟨hd.1, hd.2.1⟩, fun sig h => ?_, ok _ (by simp [wsV]), ok _ (by simp [wsV]), ok _ (by simp [wsV])⟩
  have h2 := hd.2.2
  rw [h] at h2
  exact (Option.some.inj h2).symm
theorem vx_runVW {y : MethodName} {bytes cc : ByteArray} {maxL nL mc ms n index : Nat} {ret : Option FieldType} {hh : List (Nat × Nat × Nat × Nat)} {ws : List Cond} {rm : Room} {Pc : Array Value → State → Prop} {Qc : Array Value → State → Outcome → State → Prop} {free : Addr → Prop} {Ts : List Cond} {own C : String} {b : Addr} {As rest : List Value} {g : JFrame}
    (S : CallFix p m c cc nL s args Ts own) (hM : Met l y ws rm Pc Qc mc ms free) (cw : vx_CVW R s args own C index y bytes maxL ret hh ws rm mc ms n) (hp : PreV s H C b Pc As)
    (hg : g.method = m) (hn : As.length = n) (hsize : g.locals.size = nL) (hstack : g.stack = As.reverse ++ .ref b :: rest) (hW : 2 * g.monitorRoom + (rest.map fun v => v.category).sum ≤ 8) (hdg : decode cc g.pc = .ok (.invokevirtual index, 3)) (hf : cells + mc ≤ R.cells ∧ slots + ms ≤ R.slots) :
    va_Run p l e R s m args below meth c H locs cells slots mc ms g rest (Qc (Value.ref b :: As).toArray) free := by
  obtain ⟨⟨hrc, hrs, hfr, hlo, hws, hcw⟩, hcode, hini, hy, hlen, hl, hin, hse⟩ := cw
  have hK : Back l R p e below s args y 3 8 (PreOf R mc ms Pc) (PostOf Qc mc ms free) := va_backW (hh := hh) (bytes := bytes) (maxL := maxL) (ret := ret) hM hp.1 hrc hrs hfr hlo hws hcw (fun a' U hW => word_at hW (Or.inl (by first | rfl | simp [Cond.onTables, Cond.keeps, Cond.steady])) hini)
  obtain ⟨hx, hb, hml, ho, -⟩ := S
  obtain ⟨-, ⟨cellB, hcB, hoB, hclB⟩, hPc⟩ := hp
  intro T hT X
  obtain ⟨v, vm₁, ⟨U', l2, c2, s2⟩, hW₁, X', ⟨g', mk, t, L, e1, e2, hq, h1, hL, h2, h3⟩, st⟩ := vx_callVW X hx (C := C) (hh := hh) (bytes := bytes) (maxL := maxL) (ret := ret) ho hl hin hse hcode hy hK (by rw [hT]; exact hcB) hoB hclB hg (hsize.trans hml.symm) (argsL := As) (rest := rest) (fun sig h => hn.trans (hlen sig h)) hstack hW (by rw [hb]; exact hdg)
    (fun vm₁ hW₁ => ⟨hf.1, hf.2, hPc (T.setVm vm₁) hT hW₁⟩)
  dsimp only [Pt.U, Pt.locs, Pt.cells, Pt.slots] at X' e1 e2 h1 h2 h3 st
  subst h1; subst h2; subst h3
  exact ⟨v, (T.setVm vm₁).calling g' mk (Value.ref b :: As).toArray, t, U', L, hT, X', hL, e1, e2, hq, st⟩
section
variable {y : MethodName} {bytes cc : ByteArray} {maxL nL mc ms n index : Nat} {ret : Option FieldType} {ws : List Cond} {rm : Room} {Pc : Array Value → State → Prop} {Qc : Array Value → State → Outcome → State → Prop} {XC : String → State → State → Prop} {free : Addr → Prop} {Ts : List Cond} {own C : String} {b : Addr} {As rest : List Value} {g : JFrame}
theorem vx_runVX {hh : List (Nat × Nat × Nat × Nat)} (S : CallFix p m c cc nL s args Ts own) (hM : vx_Met l y ws rm Pc Qc XC mc ms free) (cw : vx_CVW R s args own C index y bytes maxL ret hh ws rm mc ms n) (hp : PreV s H C b Pc As)
    (hg : g.method = m) (hn : As.length = n) (hsize : g.locals.size = nL) (hstack : g.stack = As.reverse ++ .ref b :: rest) (hW : 2 * g.monitorRoom + (rest.map fun v => v.category).sum ≤ 8) (hdg : decode cc g.pc = .ok (.invokevirtual index, 3)) (hf : cells + mc ≤ R.cells ∧ slots + ms ≤ R.slots) :
    vx_Run p l e R s m args below meth c H locs cells slots mc ms g rest (Qc (Value.ref b :: As).toArray) XC free := by
  obtain ⟨⟨hrc, hrs, hfr, hlo, hws, hcw⟩, hcode, hini, hy, hlen, hl, hin, hse⟩ := cw
  have hK : vx_Back l R p e below s args y 3 8 (PreOf R mc ms Pc) (PostOf Qc mc ms free) (vx_Post XC mc ms free) := vx_backW (hh := hh) (bytes := bytes) (maxL := maxL) (ret := ret) hM hp.1 hrc hrs hfr hlo hws hcw (fun a' U hW => word_at hW (Or.inl (by first | rfl | simp [Cond.onTables, Cond.keeps, Cond.steady])) hini)
  obtain ⟨hx, hb, hml, ho, -⟩ := S
  obtain ⟨-, ⟨cellB, hcB, hoB, hclB⟩, hPc⟩ := hp
  intro T hT X
  rcases vx_callVX X hx (C := C) (hh := hh) (bytes := bytes) (maxL := maxL) (ret := ret) ho hl hin hse hcode hy hK (by rw [hT]; exact hcB) hoB hclB hg (hsize.trans hml.symm) (argsL := As) (rest := rest) (fun sig h => hn.trans (hlen sig h)) hstack hW (by rw [hb]; exact hdg)
    (fun vm₁ hW₁ => ⟨hf.1, hf.2, hPc (T.setVm vm₁) hT hW₁⟩) with ⟨v, vm₁, ⟨U', l2, c2, s2⟩, hW₁, X', ⟨g', mk, t, L, e1, e2, hq, h1, hL, h2, h3⟩, st⟩ | ⟨q, vm₁, ⟨U', l2, c2, s2⟩, hW₁, X', ⟨g', mk, t, L, E, ce, e1, e2, hq, hce, hcv, hcl, h1, hL, h2, h3⟩, st⟩
  · dsimp only [Pt.U, Pt.locs, Pt.cells, Pt.slots] at X' e1 e2 h1 h2 h3 st
    subst h1; subst h2; subst h3
    exact Or.inl ⟨v, (T.setVm vm₁).calling g' mk (Value.ref b :: As).toArray, t, U', L, hT, X', hL, e1, e2, hq, st⟩
  · dsimp only [Pt.U, Pt.locs, Pt.cells, Pt.slots] at X' e1 e2 h1 h2 h3 st hcl
    subst h1; subst h2; subst h3
    exact Or.inr ⟨q, (T.setVm vm₁).calling g' mk (Value.ref b :: As).toArray, t, U', L, E, ce, hT, X', hL, e1, e2, hq, hce, hcv, vx_cls hW₁ hcl, st⟩
theorem vx_runSX {hh : List (Nat × Nat × Nat × Nat)} (S : CallFix p m c cc nL s args Ts own) (hM : vx_Met l y ws rm Pc Qc XC mc ms free) (cw : vx_CSW R s args own index y bytes maxL ret hh ws rm mc ms n) (hp : PreS s H Pc As)
    (hg : g.method = m) (hn : As.length = n) (hsize : g.locals.size = nL) (hstack : g.stack = As.reverse ++ rest) (hW : 2 * g.monitorRoom + (rest.map fun v => v.category).sum ≤ 8) (hdg : decode cc g.pc = .ok (.invokestatic index, 3)) (hf : cells + mc ≤ R.cells ∧ slots + ms ≤ R.slots) :
    vx_Run p l e R s m args below meth c H locs cells slots mc ms g rest (Qc As.toArray) XC free := by
  obtain ⟨⟨hrc, hrs, hfr, hlo, hws, hcw⟩, hcode, hini, hy, hlen, hl, hstt⟩ := cw
  have hK : vx_Back l R p e below s args y 3 8 (PreOf R mc ms Pc) (PostOf Qc mc ms free) (vx_Post XC mc ms free) := vx_backW (hh := hh) (bytes := bytes) (maxL := maxL) (ret := ret) hM hp.1 hrc hrs hfr hlo hws hcw (fun a' U hW => word_at hW (Or.inl (by first | rfl | simp [Cond.onTables, Cond.keeps, Cond.steady])) hini)
  obtain ⟨hx, hb, hml, ho, -⟩ := S
  intro T hT X
  rcases vx_callSX X hx (hh := hh) (bytes := bytes) (maxL := maxL) (ret := ret) ho hl hstt hini hcode hy hK hg (hsize.trans hml.symm) (argsL := As) (rest := rest) (fun sig h => hn.trans (hlen sig h)) hstack hW (by rw [hb]; exact hdg)
    (fun vm₁ hW₁ => ⟨hf.1, hf.2, hp.2 (T.setVm vm₁) hT hW₁⟩) with ⟨v, vm₁, ⟨U', l2, c2, s2⟩, hW₁, X', ⟨g', mk, t, L, e1, e2, hq, h1, hL, h2, h3⟩, st⟩ | ⟨q, vm₁, ⟨U', l2, c2, s2⟩, hW₁, X', ⟨g', mk, t, L, E, ce, e1, e2, hq, hce, hcv, hcl, h1, hL, h2, h3⟩, st⟩
  · dsimp only [Pt.U, Pt.locs, Pt.cells, Pt.slots] at X' e1 e2 h1 h2 h3 st
    subst h1; subst h2; subst h3
    exact Or.inl ⟨v, (T.setVm vm₁).calling g' mk As.toArray, t, U', L, hT, X', hL, e1, e2, hq, st⟩
  · dsimp only [Pt.U, Pt.locs, Pt.cells, Pt.slots] at X' e1 e2 h1 h2 h3 st hcl
    subst h1; subst h2; subst h3
    exact Or.inr ⟨q, (T.setVm vm₁).calling g' mk As.toArray, t, U', L, E, ce, hT, X', hL, e1, e2, hq, hce, hcv, vx_cls hW₁ hcl, st⟩
end
end VXH
theorem vx_ofWH {l : Launch} {y : MethodName} {ws ws' : List Cond} {rm : Room} {Pc : Array Value → State → Prop} {Qc : Array Value → State → Outcome → State → Prop} {XC : String → State → State → Prop} {mc ms : Nat} {free : Addr → Prop} {cc : ByteArray} {maxL : Nat} {ret : Option FieldType} {hh : List (Nat × Nat × Nat × Nat)}
    (hy : plainName y.cls = true) (hw : ws = Cond.codeWith y cc maxL ret hh :: ws')
    (body : ∀ p e s m args below meth c s₁, BodyLoose p l y (headSpec ws rm) cc maxL ret e s m args below meth c s₁ → c.maxLocals = maxL → Pc args s →
      W p l e (headSpec ws rm).room s m args below meth c s.heap [] 0 0 (vx_MQ below Qc XC args s mc ms free) (entryFrame m args maxL)) : vx_Met l y ws rm Pc Qc XC mc ms free := by
  refine MetFree.of_bodyS (code := cc) (maxLocals := maxL) (ret := ret) hy ?_ ?_
  · intro args s m h hn
    obtain ⟨m9, meth, c, hn9, h1, h2, h3, h4, -, h5, h6, -⟩ := Cond.codeWith_spec (atoms_spec (ws := ws) h _ (by rw [hw]; exact List.mem_cons_self))
    cases hn.symm.trans hn9
    exact ⟨meth, c, h1, h2, h3, h4, h5, h6⟩
  · intro p e s m args below meth c s₁ B hml hP _
    have hh0 : s₁.heap = s.heap := by rw [B.state]; rfl
    obtain ⟨t, a1, o, b1, b2, b3⟩ := body p e s m args below meth c s₁ B hml hP s₁ hh0 (Stand.of_body B)
    exact ⟨t, o, a1, b1, b2, b3⟩
/-! ===== END ===== -/
end
section
/-! ===== BEGIN printed: names, fields, word lists, decode rows ===== -/
def RX0 : String := "LoafMarks$Baker"
def TX0 : u_T := fun k => match k with
  | 0 => ("LoafMarks$Baker", "storeNumber", "I", false)
  | 1 => ("LoafMarks$Baker", "mark", "I", false)
  | 2 => ("LoafMarks$Baker", "ration", "I", false)
  | 3 => ("LoafMarks$Baker", "atHand", "I", false)
  | 4 => ("LoafMarks$Baker", "weight", "I", false)
  | 5 => ("LoafMarks$Baker", "shelf", "I", false)
  | 6 => ("LoafMarks$Baker", "sold", "I", false)
  | _ => ("LoafMarks$Baker", "barred", "Z", false)
def tyX0 : Nat → FieldType := fun k => match k with
  | 0 => .int
  | 1 => .int
  | 2 => .int
  | 3 => .int
  | 4 => .int
  | 5 => .int
  | 6 => .int
  | _ => .boolean
abbrev wsX00 : List Cond := u_ws RX0 TX0 8
theorem nmX0 : ∀ a, a < 8 → ∀ b, b < 8 → a ≠ b → (TX0 a).2.1 ≠ (TX0 b).2.1 := by decide +kernel
theorem tyX0_ok : ∀ k, k < 8 → parseFieldDescriptor (TX0 k).2.2.1 = some (tyX0 k) := by decide +kernel
abbrev cX0_init : ByteArray := prog_2_method_1_code
def yX0_init : MethodName := ⟨RX0, "<init>", "(IIII)V"⟩
abbrev cX0_becomeLike : ByteArray := prog_2_method_2_code
def yX0_becomeLike : MethodName := ⟨RX0, "becomeLike", "(LLoafMarks$Baker;)V"⟩
abbrev cX0_bakesLight : ByteArray := prog_2_method_3_code
def yX0_bakesLight : MethodName := ⟨RX0, "bakesLight", "()Z"⟩
abbrev cX0_bake : ByteArray := prog_2_method_4_code
def yX0_bake : MethodName := ⟨RX0, "bake", "()V"⟩
abbrev cX0_sell : ByteArray := prog_2_method_5_code
def yX0_sell : MethodName := ⟨RX0, "sell", "(I)I"⟩
abbrev cX0_inspect : ByteArray := prog_2_method_6_code
def yX0_inspect : MethodName := ⟨RX0, "inspect", "()I"⟩
abbrev cX0_forgive : ByteArray := prog_2_method_7_code
def yX0_forgive : MethodName := ⟨RX0, "forgive", "()Z"⟩
abbrev cX0_fact : ByteArray := prog_2_method_8_code
def yX0_fact : MethodName := ⟨RX0, "fact", "(I)I"⟩
def RX1 : String := "LoafMarks$Store"
def TX1 : u_T := fun k => match k with
  | 0 => ("LoafMarks$Store", "flour", "I", false)
  | 1 => ("LoafMarks$Store", "weevils", "I", false)
  | _ => ("LoafMarks$Store", "eaten", "I", false)
def tyX1 : Nat → FieldType := fun k => match k with
  | 0 => .int
  | 1 => .int
  | _ => .int
abbrev wsX10 : List Cond := u_ws RX1 TX1 3
theorem nmX1 : ∀ a, a < 3 → ∀ b, b < 3 → a ≠ b → (TX1 a).2.1 ≠ (TX1 b).2.1 := by decide +kernel
theorem tyX1_ok : ∀ k, k < 3 → parseFieldDescriptor (TX1 k).2.2.1 = some (tyX1 k) := by decide +kernel
abbrev cX1_init : ByteArray := prog_3_method_1_code
def yX1_init : MethodName := ⟨RX1, "<init>", "(II)V"⟩
abbrev cX1_becomeLike : ByteArray := prog_3_method_2_code
def yX1_becomeLike : MethodName := ⟨RX1, "becomeLike", "(LLoafMarks$Store;)V"⟩
abbrev cX1_takeIn : ByteArray := prog_3_method_3_code
def yX1_takeIn : MethodName := ⟨RX1, "takeIn", "(I)I"⟩
abbrev cX1_giveOut : ByteArray := prog_3_method_4_code
def yX1_giveOut : MethodName := ⟨RX1, "giveOut", "(I)I"⟩
abbrev cX1_feedWeevils : ByteArray := prog_3_method_5_code
def yX1_feedWeevils : MethodName := ⟨RX1, "feedWeevils", "()V"⟩
abbrev cX1_smokeOut : ByteArray := prog_3_method_6_code
def yX1_smokeOut : MethodName := ⟨RX1, "smokeOut", "()I"⟩
def RX2 : String := "LoafMarks$Town"
def TX2 : u_T := fun k => match k with
  | 0 => ("LoafMarks$Town", "gate", "[I", true)
  | 1 => ("LoafMarks$Town", "stores", "[LLoafMarks$Store;", true)
  | 2 => ("LoafMarks$Town", "bakers", "[LLoafMarks$Baker;", true)
  | 3 => ("LoafMarks$Town", "hour", "I", false)
  | 4 => ("LoafMarks$Town", "people", "I", false)
  | 5 => ("LoafMarks$Town", "bought", "I", false)
  | 6 => ("LoafMarks$Town", "light", "I", false)
  | 7 => ("LoafMarks$Town", "hungry", "I", false)
  | _ => ("LoafMarks$Town", "lost", "I", false)
def tyX2 : Nat → FieldType := fun k => match k with
  | 0 => .array .int
  | 1 => .array (.object "LoafMarks$Store")
  | 2 => .array (.object "LoafMarks$Baker")
  | 3 => .int
  | 4 => .int
  | 5 => .int
  | 6 => .int
  | 7 => .int
  | _ => .int
abbrev wsX20 : List Cond := u_ws RX2 TX2 9
theorem nmX2 : ∀ a, a < 9 → ∀ b, b < 9 → a ≠ b → (TX2 a).2.1 ≠ (TX2 b).2.1 := by decide +kernel
theorem tyX2_ok : ∀ k, k < 9 → parseFieldDescriptor (TX2 k).2.2.1 = some (tyX2 k) := by decide +kernel
abbrev cX2_init : ByteArray := prog_4_method_1_code
def yX2_init : MethodName := ⟨RX2, "<init>", "()V"⟩
abbrev cX2_becomeLike : ByteArray := prog_4_method_2_code
def yX2_becomeLike : MethodName := ⟨RX2, "becomeLike", "(LLoafMarks$Town;)V"⟩
abbrev cX2_copyStores : ByteArray := prog_4_method_3_code
def yX2_copyStores : MethodName := ⟨RX2, "copyStores", "(LLoafMarks$Town;)V"⟩
abbrev cX2_copyBakers : ByteArray := prog_4_method_4_code
def yX2_copyBakers : MethodName := ⟨RX2, "copyBakers", "(LLoafMarks$Town;)V"⟩
abbrev cX2_gateAt : ByteArray := prog_4_method_5_code
def yX2_gateAt : MethodName := ⟨RX2, "gateAt", "(I)I"⟩
abbrev cX2_changeGate : ByteArray := prog_4_method_6_code
def yX2_changeGate : MethodName := ⟨RX2, "changeGate", "(II)I"⟩
abbrev cX2_storeAt : ByteArray := prog_4_method_7_code
def yX2_storeAt : MethodName := ⟨RX2, "storeAt", "(I)LLoafMarks$Store;"⟩
abbrev cX2_bakerAt : ByteArray := prog_4_method_8_code
def yX2_bakerAt : MethodName := ⟨RX2, "bakerAt", "(I)LLoafMarks$Baker;"⟩
abbrev cX2_addStore : ByteArray := prog_4_method_9_code
def yX2_addStore : MethodName := ⟨RX2, "addStore", "(II)I"⟩
abbrev cX2_addBaker : ByteArray := prog_4_method_10_code
def yX2_addBaker : MethodName := ⟨RX2, "addBaker", "(IIII)I"⟩
abbrev cX2_bakerWithMark : ByteArray := prog_4_method_11_code
def yX2_bakerWithMark : MethodName := ⟨RX2, "bakerWithMark", "(I)I"⟩
abbrev cX2_goThrough : ByteArray := prog_4_method_12_code
def yX2_goThrough : MethodName := ⟨RX2, "goThrough", "(I)I"⟩
abbrev cX2_goThroughHour : ByteArray := prog_4_method_13_code
def yX2_goThroughHour : MethodName := ⟨RX2, "goThroughHour", "()I"⟩
abbrev cX2_hourOfDay : ByteArray := prog_4_method_14_code
def yX2_hourOfDay : MethodName := ⟨RX2, "hourOfDay", "()I"⟩
abbrev cX2_unloadCarts : ByteArray := prog_4_method_15_code
def yX2_unloadCarts : MethodName := ⟨RX2, "unloadCarts", "(I)V"⟩
abbrev cX2_emptiestStore : ByteArray := prog_4_method_16_code
def yX2_emptiestStore : MethodName := ⟨RX2, "emptiestStore", "()LLoafMarks$Store;"⟩
abbrev cX2_dealRations : ByteArray := prog_4_method_17_code
def yX2_dealRations : MethodName := ⟨RX2, "dealRations", "()V"⟩
abbrev cX2_feedAllWeevils : ByteArray := prog_4_method_18_code
def yX2_feedAllWeevils : MethodName := ⟨RX2, "feedAllWeevils", "()V"⟩
abbrev cX2_bakeAll : ByteArray := prog_4_method_19_code
def yX2_bakeAll : MethodName := ⟨RX2, "bakeAll", "()V"⟩
abbrev cX2_sellAtNoon : ByteArray := prog_4_method_20_code
def yX2_sellAtNoon : MethodName := ⟨RX2, "sellAtNoon", "()I"⟩
abbrev cX2_flourOfAll : ByteArray := prog_4_method_21_code
def yX2_flourOfAll : MethodName := ⟨RX2, "flourOfAll", "()I"⟩
abbrev cX2_weevilsOfAll : ByteArray := prog_4_method_22_code
def yX2_weevilsOfAll : MethodName := ⟨RX2, "weevilsOfAll", "()I"⟩
abbrev cX2_loavesOfAll : ByteArray := prog_4_method_23_code
def yX2_loavesOfAll : MethodName := ⟨RX2, "loavesOfAll", "()I"⟩
abbrev cX2_bakersOfStore : ByteArray := prog_4_method_24_code
def yX2_bakersOfStore : MethodName := ⟨RX2, "bakersOfStore", "(I)I"⟩
abbrev cX2_barredBakers : ByteArray := prog_4_method_25_code
def yX2_barredBakers : MethodName := ⟨RX2, "barredBakers", "()I"⟩
abbrev cX2_storeFact : ByteArray := prog_4_method_26_code
def yX2_storeFact : MethodName := ⟨RX2, "storeFact", "(II)I"⟩
abbrev cX2_fact : ByteArray := prog_4_method_27_code
def yX2_fact : MethodName := ⟨RX2, "fact", "(I)I"⟩
def RX3 : String := "LoafMarks"
def TX3 : u_T := fun k => match k with
  | 0 => ("LoafMarks", "town", "LLoafMarks$Town;", true)
  | _ => ("LoafMarks", "trial", "LLoafMarks$Town;", true)
def tyX3 : Nat → FieldType := fun k => match k with
  | 0 => .object "LoafMarks$Town"
  | _ => .object "LoafMarks$Town"
abbrev wsX30 : List Cond := u_ws RX3 TX3 2
theorem nmX3 : ∀ a, a < 2 → ∀ b, b < 2 → a ≠ b → (TX3 a).2.1 ≠ (TX3 b).2.1 := by decide +kernel
theorem tyX3_ok : ∀ k, k < 2 → parseFieldDescriptor (TX3 k).2.2.1 = some (tyX3 k) := by decide +kernel
abbrev cX3_init : ByteArray := prog_1_method_1_code
def yX3_init : MethodName := ⟨RX3, "<init>", "()V"⟩
abbrev cX3_setPeople : ByteArray := prog_1_method_2_code
def yX3_setPeople : MethodName := ⟨RX3, "setPeople", "(I)I"⟩
abbrev cX3_setGate : ByteArray := prog_1_method_3_code
def yX3_setGate : MethodName := ⟨RX3, "setGate", "(II)I"⟩
abbrev cX3_open : ByteArray := prog_1_method_4_code
def yX3_open : MethodName := ⟨RX3, "open", "(II)I"⟩
abbrev cX3_smoke : ByteArray := prog_1_method_5_code
def yX3_smoke : MethodName := ⟨RX3, "smoke", "(I)I"⟩
abbrev cX3_swear : ByteArray := prog_1_method_6_code
def yX3_swear : MethodName := ⟨RX3, "swear", "(IIII)I"⟩
abbrev cX3_deal : ByteArray := prog_1_method_7_code
def yX3_deal : MethodName := ⟨RX3, "deal", "(II)I"⟩
abbrev cX3_weigh : ByteArray := prog_1_method_8_code
def yX3_weigh : MethodName := ⟨RX3, "weigh", "(I)I"⟩
abbrev cX3_pardon : ByteArray := prog_1_method_9_code
def yX3_pardon : MethodName := ⟨RX3, "pardon", "(I)Z"⟩
abbrev cX3_store : ByteArray := prog_1_method_10_code
def yX3_store : MethodName := ⟨RX3, "store", "(II)I"⟩
abbrev cX3_baker : ByteArray := prog_1_method_11_code
def yX3_baker : MethodName := ⟨RX3, "baker", "(II)I"⟩
abbrev cX3_whose : ByteArray := prog_1_method_12_code
def yX3_whose : MethodName := ⟨RX3, "whose", "(I)I"⟩
abbrev cX3_count : ByteArray := prog_1_method_13_code
def yX3_count : MethodName := ⟨RX3, "count", "(I)I"⟩
abbrev cX3_pass : ByteArray := prog_1_method_14_code
def yX3_pass : MethodName := ⟨RX3, "pass", "(I)I"⟩
abbrev cX3_lasts : ByteArray := prog_1_method_15_code
def yX3_lasts : MethodName := ⟨RX3, "lasts", "()I"⟩
abbrev cX3_foresee : ByteArray := prog_1_method_16_code
def yX3_foresee : MethodName := ⟨RX3, "foresee", "(II)I"⟩
abbrev cX3_share : ByteArray := prog_1_method_18_code
def yX3_share : MethodName := ⟨RX3, "share", "()D"⟩
abbrev cX3_isWithin : ByteArray := prog_1_method_20_code
def yX3_isWithin : MethodName := ⟨RX3, "isWithin", "(III)Z"⟩
def RX4 : String := "LoafMarksLaw$Sim"
def TX4 : u_T := fun k => match k with
  | 0 => ("LoafMarksLaw$Sim", "people", "I", false)
  | 1 => ("LoafMarksLaw$Sim", "gate", "[I", false)
  | 2 => ("LoafMarksLaw$Sim", "stores", "[[I", false)
  | 3 => ("LoafMarksLaw$Sim", "bakers", "[[I", false)
  | 4 => ("LoafMarksLaw$Sim", "hour", "I", false)
  | 5 => ("LoafMarksLaw$Sim", "all", "I", false)
  | 6 => ("LoafMarksLaw$Sim", "light", "I", false)
  | 7 => ("LoafMarksLaw$Sim", "hungry", "I", false)
  | _ => ("LoafMarksLaw$Sim", "lost", "I", false)
def tyX4 : Nat → FieldType := fun k => match k with
  | 0 => .int
  | 1 => .array .int
  | 2 => .array (.array .int)
  | 3 => .array (.array .int)
  | 4 => .int
  | 5 => .int
  | 6 => .int
  | 7 => .int
  | _ => .int
abbrev wsX40 : List Cond := u_ws RX4 TX4 9
theorem nmX4 : ∀ a, a < 9 → ∀ b, b < 9 → a ≠ b → (TX4 a).2.1 ≠ (TX4 b).2.1 := by decide +kernel
theorem tyX4_ok : ∀ k, k < 9 → parseFieldDescriptor (TX4 k).2.2.1 = some (tyX4 k) := by decide +kernel
abbrev cX4_init : ByteArray := prog_6_method_1_code
def yX4_init : MethodName := ⟨RX4, "<init>", "()V"⟩
abbrev cX4_more : ByteArray := prog_6_method_2_code
def yX4_more : MethodName := ⟨RX4, "more", "([[I[I)[[I"⟩
abbrev cX4_owner : ByteArray := prog_6_method_4_code
def yX4_owner : MethodName := ⟨RX4, "owner", "(I)I"⟩
abbrev cX4_pass : ByteArray := prog_6_method_5_code
def yX4_pass : MethodName := ⟨RX4, "pass", "()I"⟩
abbrev cX4_stored : ByteArray := prog_6_method_6_code
def yX4_stored : MethodName := ⟨RX4, "stored", "(I)I"⟩
abbrev cX4_baked : ByteArray := prog_6_method_7_code
def yX4_baked : MethodName := ⟨RX4, "baked", "(I)I"⟩
abbrev cX4_isSame : ByteArray := prog_6_method_8_code
def yX4_isSame : MethodName := ⟨RX4, "isSame", "(LLoafMarks;)Z"⟩
def RX5 : String := "LoafMarksModel"
def TX5 : u_T := fun k => match k with
  | _ => ("", "", "", false)
def tyX5 : Nat → FieldType := fun k => match k with
  | _ => .int
abbrev wsX50 : List Cond := u_ws RX5 TX5 0
theorem nmX5 : ∀ a, a < 0 → ∀ b, b < 0 → a ≠ b → (TX5 a).2.1 ≠ (TX5 b).2.1 := by decide +kernel
theorem tyX5_ok : ∀ k, k < 0 → parseFieldDescriptor (TX5 k).2.2.1 = some (tyX5 k) := by decide +kernel
def RJ9 : String := "java/lang/Math"
def TJ9 : u_T := fun k => match k with
  | _ => ("", "", "", false)
def tyJ9 : Nat → FieldType := fun k => match k with
  | _ => .int
abbrev wsJ90 : List Cond := u_ws RJ9 TJ9 0
theorem nmJ9 : ∀ a, a < 0 → ∀ b, b < 0 → a ≠ b → (TJ9 a).2.1 ≠ (TJ9 b).2.1 := by decide +kernel
theorem tyJ9_ok : ∀ k, k < 0 → parseFieldDescriptor (TJ9 k).2.2.1 = some (tyJ9 k) := by decide +kernel
abbrev cJ9_floorMod_7cf53 : ByteArray := prog_12_method_50_code
def yJ9_floorMod_7cf53 : MethodName := ⟨RJ9, "floorMod", "(II)I"⟩
abbrev cJ9_max_7cf53 : ByteArray := prog_12_method_65_code
def yJ9_max_7cf53 : MethodName := ⟨RJ9, "max", "(II)I"⟩
abbrev cJ9_min_7cf53 : ByteArray := prog_12_method_69_code
def yJ9_min_7cf53 : MethodName := ⟨RJ9, "min", "(II)I"⟩
def RJ0 : String := "java/lang/String"
def TJ0 : u_T := fun k => match k with
  | _ => ("", "", "", false)
def tyJ0 : Nat → FieldType := fun k => match k with
  | _ => .int
abbrev wsJ00 : List Cond := u_ws RJ0 TJ0 0
theorem nmJ0 : ∀ a, a < 0 → ∀ b, b < 0 → a ≠ b → (TJ0 a).2.1 ≠ (TJ0 b).2.1 := by decide +kernel
theorem tyJ0_ok : ∀ k, k < 0 → parseFieldDescriptor (TJ0 k).2.2.1 = some (tyJ0 k) := by decide +kernel
def RL : String := "LoafMarksLaw"
abbrev cL_below : ByteArray := method_2_code
def yL_below : MethodName := ⟨RL, "below", "(II)I"⟩
abbrev cL_cell : ByteArray := method_3_code
def yL_cell : MethodName := ⟨RL, "cell", "([II)I"⟩
abbrev cL_act : ByteArray := method_4_code
def yL_act : MethodName := ⟨RL, "act", "(LLoafMarks;LLoafMarksLaw$Sim;I)Z"⟩
abbrev cL_build : ByteArray := method_5_code
def yL_build : MethodName := ⟨RL, "build", "(LLoafMarks;[I)LLoafMarksLaw$Sim;"⟩
abbrev cL_law : ByteArray := code
def yL_law : MethodName := ⟨RL, "law", "([I)Z"⟩
def wsX0_init : List Cond := .code yX0_init cX0_init 5 none :: ([.methodLink RX0 3 objectInit, .instanceMethod objectInit, .code objectInit ⟨#[0xb1]⟩ 1 none, .fieldLink RX0 9 "LoafMarks$Baker" "storeNumber" "I", .fieldLink RX0 15 "LoafMarks$Baker" "mark" "I", .fieldLink RX0 18 "LoafMarks$Baker" "weight" "I", .fieldLink RX0 21 "LoafMarks$Baker" "ration" "I"] ++ wsX00)
def wsX0_becomeLike : List Cond := .code yX0_becomeLike cX0_becomeLike 2 none :: ([.fieldLink RX0 9 "LoafMarks$Baker" "storeNumber" "I", .fieldLink RX0 15 "LoafMarks$Baker" "mark" "I", .fieldLink RX0 21 "LoafMarks$Baker" "ration" "I", .fieldLink RX0 24 "LoafMarks$Baker" "atHand" "I", .fieldLink RX0 18 "LoafMarks$Baker" "weight" "I", .fieldLink RX0 27 "LoafMarks$Baker" "shelf" "I", .fieldLink RX0 30 "LoafMarks$Baker" "sold" "I", .fieldLink RX0 33 "LoafMarks$Baker" "barred" "Z"] ++ wsX00)
def wsX0_bakesLight : List Cond := .code yX0_bakesLight cX0_bakesLight 1 (some .boolean) :: ([.fieldLink RX0 18 "LoafMarks$Baker" "weight" "I"] ++ wsX00)
def wsX0_bake : List Cond := .code yX0_bake cX0_bake 2 none :: ([.fieldLink RX0 33 "LoafMarks$Baker" "barred" "Z", .fieldLink RX0 18 "LoafMarks$Baker" "weight" "I", .fieldLink RX0 24 "LoafMarks$Baker" "atHand" "I", .methodLink RX0 37 Lib.Math.min.name, .static Lib.Math.min.name, .initialized "java/lang/Math", .code Lib.Math.min.name Lib.Math.min.code 2 (some .int), .fieldLink RX0 27 "LoafMarks$Baker" "shelf" "I"] ++ wsX00)
def wsX0_sell : List Cond := .code yX0_sell cX0_sell 3 (some .int) :: ([.fieldLink RX0 27 "LoafMarks$Baker" "shelf" "I", .methodLink RX0 37 Lib.Math.min.name, .static Lib.Math.min.name, .initialized "java/lang/Math", .code Lib.Math.min.name Lib.Math.min.code 2 (some .int), .fieldLink RX0 30 "LoafMarks$Baker" "sold" "I"] ++ wsX00)
def wsX0_inspect : List Cond := .code yX0_inspect cX0_inspect 1 (some .int) :: ([.fieldLink RX0 27 "LoafMarks$Baker" "shelf" "I", .fieldLink RX0 33 "LoafMarks$Baker" "barred" "Z", .fieldLink RX0 18 "LoafMarks$Baker" "weight" "I", .methodLink RX0 43 yX0_bakesLight, .instanceMethod yX0_bakesLight, .selects RX0 yX0_bakesLight yX0_bakesLight, .initialized RX0, .code yX0_bakesLight cX0_bakesLight 1 (some .boolean)] ++ wsX00)
def wsX0_forgive : List Cond := .code yX0_forgive cX0_forgive 2 (some .boolean) :: ([.fieldLink RX0 33 "LoafMarks$Baker" "barred" "Z", .fieldLink RX0 18 "LoafMarks$Baker" "weight" "I", .methodLink RX0 47 Lib.Math.max.name, .static Lib.Math.max.name, .initialized "java/lang/Math", .code Lib.Math.max.name Lib.Math.max.code 2 (some .int)] ++ wsX00)
def wsX0_fact : List Cond := .code yX0_fact cX0_fact 2 (some .int) :: ([.fieldLink RX0 9 "LoafMarks$Baker" "storeNumber" "I", .fieldLink RX0 15 "LoafMarks$Baker" "mark" "I", .fieldLink RX0 21 "LoafMarks$Baker" "ration" "I", .fieldLink RX0 24 "LoafMarks$Baker" "atHand" "I", .fieldLink RX0 18 "LoafMarks$Baker" "weight" "I", .fieldLink RX0 27 "LoafMarks$Baker" "shelf" "I", .fieldLink RX0 30 "LoafMarks$Baker" "sold" "I", .fieldLink RX0 33 "LoafMarks$Baker" "barred" "Z"] ++ wsX00)
def wsX1_init : List Cond := .code yX1_init cX1_init 3 none :: ([.methodLink RX1 3 objectInit, .instanceMethod objectInit, .code objectInit ⟨#[0xb1]⟩ 1 none, .fieldLink RX1 9 "LoafMarks$Store" "flour" "I", .fieldLink RX1 15 "LoafMarks$Store" "weevils" "I"] ++ wsX10)
def wsX1_becomeLike : List Cond := .code yX1_becomeLike cX1_becomeLike 2 none :: ([.fieldLink RX1 9 "LoafMarks$Store" "flour" "I", .fieldLink RX1 15 "LoafMarks$Store" "weevils" "I", .fieldLink RX1 18 "LoafMarks$Store" "eaten" "I"] ++ wsX10)
def wsX1_takeIn : List Cond := .code yX1_takeIn cX1_takeIn 3 (some .int) :: ([.fieldLink RX1 9 "LoafMarks$Store" "flour" "I", .methodLink RX1 21 Lib.Math.min.name, .static Lib.Math.min.name, .initialized "java/lang/Math", .code Lib.Math.min.name Lib.Math.min.code 2 (some .int)] ++ wsX10)
def wsX1_giveOut : List Cond := .code yX1_giveOut cX1_giveOut 3 (some .int) :: ([.fieldLink RX1 9 "LoafMarks$Store" "flour" "I", .methodLink RX1 21 Lib.Math.min.name, .static Lib.Math.min.name, .initialized "java/lang/Math", .code Lib.Math.min.name Lib.Math.min.code 2 (some .int)] ++ wsX10)
def wsX1_feedWeevils : List Cond := .code yX1_feedWeevils cX1_feedWeevils 1 none :: ([.fieldLink RX1 18 "LoafMarks$Store" "eaten" "I", .fieldLink RX1 15 "LoafMarks$Store" "weevils" "I", .fieldLink RX1 9 "LoafMarks$Store" "flour" "I", .methodLink RX1 21 Lib.Math.min.name, .static Lib.Math.min.name, .initialized "java/lang/Math", .code Lib.Math.min.name Lib.Math.min.code 2 (some .int), .methodLink RX1 27 yX1_giveOut, .instanceMethod yX1_giveOut, .selects RX1 yX1_giveOut yX1_giveOut, .initialized RX1, .code yX1_giveOut cX1_giveOut 3 (some .int)] ++ wsX10)
def wsX1_smokeOut : List Cond := .code yX1_smokeOut cX1_smokeOut 2 (some .int) :: ([.fieldLink RX1 15 "LoafMarks$Store" "weevils" "I", .fieldLink RX1 9 "LoafMarks$Store" "flour" "I"] ++ wsX10)
def wsX2_init : List Cond := .code yX2_init cX2_init 1 none :: ([.methodLink RX2 3 objectInit, .instanceMethod objectInit, .code objectInit ⟨#[0xb1]⟩ 1 none, .arrayClass .int, .fieldLink RX2 9 "LoafMarks$Town" "gate" "[I", .classLink RX2 15 RX1, .fieldLink RX2 17 "LoafMarks$Town" "stores" "[LLoafMarks$Store;", .classLink RX2 21 RX0, .fieldLink RX2 23 "LoafMarks$Town" "bakers" "[LLoafMarks$Baker;", .fieldLink RX2 27 "LoafMarks$Town" "people" "I"] ++ wsX20)
def wsX2_gateAt : List Cond := .code yX2_gateAt cX2_gateAt 2 (some .int) :: ([.fieldLink RX2 9 "LoafMarks$Town" "gate" "[I"] ++ wsX20)
def wsX2_storeAt : List Cond := .code yX2_storeAt cX2_storeAt 2 (some (.object "LoafMarks$Store")) :: ([.fieldLink RX2 17 "LoafMarks$Town" "stores" "[LLoafMarks$Store;"] ++ wsX20)
def wsX2_copyStores : List Cond := .code yX2_copyStores cX2_copyStores 5 none :: ([.fieldLink RX2 17 "LoafMarks$Town" "stores" "[LLoafMarks$Store;", .classLink RX2 15 RX1, .instantiable RX1 3, .initialized RX1, .methodLink RX2 57 yX2_storeAt, .instanceMethod yX2_storeAt, .selects RX2 yX2_storeAt yX2_storeAt, .initialized RX2, .code yX2_storeAt cX2_storeAt 2 (some (.object "LoafMarks$Store")), .methodLink RX2 61 yX1_init, .instanceMethod yX1_init, .code yX1_init cX1_init 3 none, .methodLink RX1 3 objectInit, .instanceMethod objectInit, .code objectInit ⟨#[0xb1]⟩ 1 none, .fieldLink RX1 9 "LoafMarks$Store" "flour" "I", .fieldLink RX1 15 "LoafMarks$Store" "weevils" "I", .methodLink RX2 64 yX1_becomeLike, .instanceMethod yX1_becomeLike, .selects RX1 yX1_becomeLike yX1_becomeLike, .code yX1_becomeLike cX1_becomeLike 2 none, .fieldLink RX1 18 "LoafMarks$Store" "eaten" "I"] ++ wsX20 ++ wsX10)
def wsX2_bakerAt : List Cond := .code yX2_bakerAt cX2_bakerAt 2 (some (.object "LoafMarks$Baker")) :: ([.fieldLink RX2 23 "LoafMarks$Town" "bakers" "[LLoafMarks$Baker;"] ++ wsX20)
def wsX2_copyBakers_r1 : List Cond := [Cond.fieldLink RX2 23 "LoafMarks$Town" "bakers" "[LLoafMarks$Baker;", Cond.classLink RX2 21 RX0, Cond.instantiable RX0 8, Cond.initialized RX0, Cond.methodLink RX2 68 yX2_bakerAt, Cond.instanceMethod yX2_bakerAt, Cond.selects RX2 yX2_bakerAt yX2_bakerAt, Cond.initialized RX2, Cond.code yX2_bakerAt cX2_bakerAt 2 (some (.object "LoafMarks$Baker")), Cond.methodLink RX2 72 yX0_init, Cond.instanceMethod yX0_init, Cond.code yX0_init cX0_init 5 none, Cond.methodLink RX0 3 objectInit, Cond.instanceMethod objectInit, Cond.code objectInit ⟨#[0xb1]⟩ 1 none, Cond.fieldLink RX0 9 "LoafMarks$Baker" "storeNumber" "I", Cond.fieldLink RX0 15 "LoafMarks$Baker" "mark" "I", Cond.fieldLink RX0 18 "LoafMarks$Baker" "weight" "I", Cond.fieldLink RX0 21 "LoafMarks$Baker" "ration" "I", Cond.methodLink RX2 75 yX0_becomeLike, Cond.instanceMethod yX0_becomeLike, Cond.selects RX0 yX0_becomeLike yX0_becomeLike, Cond.code yX0_becomeLike cX0_becomeLike 2 none, Cond.fieldLink RX0 24 "LoafMarks$Baker" "atHand" "I"]
def wsX2_copyBakers_r2 : List Cond := [Cond.fieldLink RX0 27 "LoafMarks$Baker" "shelf" "I", Cond.fieldLink RX0 30 "LoafMarks$Baker" "sold" "I", Cond.fieldLink RX0 33 "LoafMarks$Baker" "barred" "Z"]
def wsX2_copyBakers : List Cond := .code yX2_copyBakers cX2_copyBakers 5 none :: ((wsX2_copyBakers_r1 ++ wsX2_copyBakers_r2) ++ wsX20 ++ wsX00)
def wsX2_becomeLike_r1 : List Cond := [Cond.fieldLink RX2 31 "LoafMarks$Town" "hour" "I", Cond.fieldLink RX2 27 "LoafMarks$Town" "people" "I", Cond.fieldLink RX2 34 "LoafMarks$Town" "bought" "I", Cond.fieldLink RX2 37 "LoafMarks$Town" "light" "I", Cond.fieldLink RX2 40 "LoafMarks$Town" "hungry" "I", Cond.fieldLink RX2 43 "LoafMarks$Town" "lost" "I", Cond.fieldLink RX2 9 "LoafMarks$Town" "gate" "[I", Cond.methodLink RX2 46 yX2_gateAt, Cond.instanceMethod yX2_gateAt, Cond.selects RX2 yX2_gateAt yX2_gateAt, Cond.initialized RX2, Cond.code yX2_gateAt cX2_gateAt 2 (some .int), Cond.methodLink RX2 50 yX2_copyStores, Cond.instanceMethod yX2_copyStores, Cond.selects RX2 yX2_copyStores yX2_copyStores, Cond.code yX2_copyStores cX2_copyStores 5 none, Cond.fieldLink RX2 17 "LoafMarks$Town" "stores" "[LLoafMarks$Store;", Cond.classLink RX2 15 RX1, Cond.instantiable RX1 3, Cond.initialized RX1, Cond.methodLink RX2 57 yX2_storeAt, Cond.instanceMethod yX2_storeAt, Cond.selects RX2 yX2_storeAt yX2_storeAt, Cond.code yX2_storeAt cX2_storeAt 2 (some (.object "LoafMarks$Store"))]
def wsX2_becomeLike_r2 : List Cond := [Cond.methodLink RX2 61 yX1_init, Cond.instanceMethod yX1_init, Cond.code yX1_init cX1_init 3 none, Cond.methodLink RX1 3 objectInit, Cond.instanceMethod objectInit, Cond.code objectInit ⟨#[0xb1]⟩ 1 none, Cond.fieldLink RX1 9 "LoafMarks$Store" "flour" "I", Cond.fieldLink RX1 15 "LoafMarks$Store" "weevils" "I", Cond.methodLink RX2 64 yX1_becomeLike, Cond.instanceMethod yX1_becomeLike, Cond.selects RX1 yX1_becomeLike yX1_becomeLike, Cond.code yX1_becomeLike cX1_becomeLike 2 none, Cond.fieldLink RX1 18 "LoafMarks$Store" "eaten" "I", Cond.methodLink RX2 54 yX2_copyBakers, Cond.instanceMethod yX2_copyBakers, Cond.selects RX2 yX2_copyBakers yX2_copyBakers, Cond.code yX2_copyBakers cX2_copyBakers 5 none, Cond.fieldLink RX2 23 "LoafMarks$Town" "bakers" "[LLoafMarks$Baker;", Cond.classLink RX2 21 RX0, Cond.instantiable RX0 8, Cond.initialized RX0, Cond.methodLink RX2 68 yX2_bakerAt, Cond.instanceMethod yX2_bakerAt, Cond.selects RX2 yX2_bakerAt yX2_bakerAt]
def wsX2_becomeLike_r3 : List Cond := [Cond.code yX2_bakerAt cX2_bakerAt 2 (some (.object "LoafMarks$Baker")), Cond.methodLink RX2 72 yX0_init, Cond.instanceMethod yX0_init, Cond.code yX0_init cX0_init 5 none, Cond.methodLink RX0 3 objectInit, Cond.fieldLink RX0 9 "LoafMarks$Baker" "storeNumber" "I", Cond.fieldLink RX0 15 "LoafMarks$Baker" "mark" "I", Cond.fieldLink RX0 18 "LoafMarks$Baker" "weight" "I", Cond.fieldLink RX0 21 "LoafMarks$Baker" "ration" "I", Cond.methodLink RX2 75 yX0_becomeLike, Cond.instanceMethod yX0_becomeLike, Cond.selects RX0 yX0_becomeLike yX0_becomeLike, Cond.code yX0_becomeLike cX0_becomeLike 2 none, Cond.fieldLink RX0 24 "LoafMarks$Baker" "atHand" "I", Cond.fieldLink RX0 27 "LoafMarks$Baker" "shelf" "I", Cond.fieldLink RX0 30 "LoafMarks$Baker" "sold" "I", Cond.fieldLink RX0 33 "LoafMarks$Baker" "barred" "Z"]
def wsX2_becomeLike : List Cond := .code yX2_becomeLike cX2_becomeLike 3 none :: ((wsX2_becomeLike_r1 ++ (wsX2_becomeLike_r2 ++ wsX2_becomeLike_r3)) ++ wsX20 ++ wsX10 ++ wsX00)
def wsX2_changeGate : List Cond := .code yX2_changeGate cX2_changeGate 4 (some .int) :: ([.fieldLink RX2 9 "LoafMarks$Town" "gate" "[I", .methodLink RX2 46 yX2_gateAt, .instanceMethod yX2_gateAt, .selects RX2 yX2_gateAt yX2_gateAt, .initialized RX2, .code yX2_gateAt cX2_gateAt 2 (some .int)] ++ wsX20)
def wsX2_addStore : List Cond := .code yX2_addStore cX2_addStore 4 (some .int) :: ([.fieldLink RX2 17 "LoafMarks$Town" "stores" "[LLoafMarks$Store;", .classLink RX2 15 RX1, .instantiable RX1 3, .initialized RX1, .methodLink RX2 61 yX1_init, .instanceMethod yX1_init, .code yX1_init cX1_init 3 none, .methodLink RX1 3 objectInit, .instanceMethod objectInit, .code objectInit ⟨#[0xb1]⟩ 1 none, .fieldLink RX1 9 "LoafMarks$Store" "flour" "I", .fieldLink RX1 15 "LoafMarks$Store" "weevils" "I"] ++ wsX20 ++ wsX10)
def wsX2_addBaker : List Cond := .code yX2_addBaker cX2_addBaker 6 (some .int) :: ([.fieldLink RX2 23 "LoafMarks$Town" "bakers" "[LLoafMarks$Baker;", .classLink RX2 21 RX0, .instantiable RX0 8, .initialized RX0, .methodLink RX2 72 yX0_init, .instanceMethod yX0_init, .code yX0_init cX0_init 5 none, .methodLink RX0 3 objectInit, .instanceMethod objectInit, .code objectInit ⟨#[0xb1]⟩ 1 none, .fieldLink RX0 9 "LoafMarks$Baker" "storeNumber" "I", .fieldLink RX0 15 "LoafMarks$Baker" "mark" "I", .fieldLink RX0 18 "LoafMarks$Baker" "weight" "I", .fieldLink RX0 21 "LoafMarks$Baker" "ration" "I"] ++ wsX20 ++ wsX00)
def wsX2_bakerWithMark : List Cond := .code yX2_bakerWithMark cX2_bakerWithMark 4 (some .int) :: ([.fieldLink RX2 23 "LoafMarks$Town" "bakers" "[LLoafMarks$Baker;", .fieldLink RX2 78 "LoafMarks$Baker" "mark" "I"] ++ wsX20 ++ wsX00)
def wsJ9_floorMod_7cf53 : List Cond := .code yJ9_floorMod_7cf53 cJ9_floorMod_7cf53 3 (some .int) :: ([])
def wsX2_hourOfDay : List Cond := .code yX2_hourOfDay cX2_hourOfDay 1 (some .int) :: ([.fieldLink RX2 31 "LoafMarks$Town" "hour" "I", .methodLink RX2 104 yJ9_floorMod_7cf53, .static yJ9_floorMod_7cf53, .initialized RJ9, .code yJ9_floorMod_7cf53 cJ9_floorMod_7cf53 3 (some .int)] ++ wsX20)
def wsX2_emptiestStore : List Cond := .code yX2_emptiestStore cX2_emptiestStore 6 (some (.object "LoafMarks$Store")) :: ([.fieldLink RX2 17 "LoafMarks$Town" "stores" "[LLoafMarks$Store;", .fieldLink RX2 117 "LoafMarks$Store" "flour" "I"] ++ wsX20 ++ wsX10)
def wsX2_unloadCarts : List Cond := .code yX2_unloadCarts cX2_unloadCarts 3 none :: ([.fieldLink RX2 43 "LoafMarks$Town" "lost" "I", .methodLink RX2 110 yX2_emptiestStore, .instanceMethod yX2_emptiestStore, .selects RX2 yX2_emptiestStore yX2_emptiestStore, .initialized RX2, .code yX2_emptiestStore cX2_emptiestStore 6 (some (.object "LoafMarks$Store")), .fieldLink RX2 17 "LoafMarks$Town" "stores" "[LLoafMarks$Store;", .fieldLink RX2 117 "LoafMarks$Store" "flour" "I", .methodLink RX2 114 yX1_takeIn, .instanceMethod yX1_takeIn, .selects RX1 yX1_takeIn yX1_takeIn, .initialized RX1, .code yX1_takeIn cX1_takeIn 3 (some .int), .fieldLink RX1 9 "LoafMarks$Store" "flour" "I", .methodLink RX1 21 Lib.Math.min.name, .static Lib.Math.min.name, .initialized "java/lang/Math", .code Lib.Math.min.name Lib.Math.min.code 2 (some .int)] ++ wsX20 ++ wsX10)
def wsX2_dealRations : List Cond := .code yX2_dealRations cX2_dealRations 6 none :: ([.fieldLink RX2 23 "LoafMarks$Town" "bakers" "[LLoafMarks$Baker;", .fieldLink RX2 120 "LoafMarks$Baker" "barred" "Z", .fieldLink RX2 124 "LoafMarks$Baker" "storeNumber" "I", .fieldLink RX2 127 "LoafMarks$Baker" "atHand" "I", .fieldLink RX2 130 "LoafMarks$Baker" "ration" "I", .methodLink RX2 57 yX2_storeAt, .instanceMethod yX2_storeAt, .selects RX2 yX2_storeAt yX2_storeAt, .initialized RX2, .code yX2_storeAt cX2_storeAt 2 (some (.object "LoafMarks$Store")), .fieldLink RX2 17 "LoafMarks$Town" "stores" "[LLoafMarks$Store;", .methodLink RX2 133 yX1_giveOut, .instanceMethod yX1_giveOut, .selects RX1 yX1_giveOut yX1_giveOut, .initialized RX1, .code yX1_giveOut cX1_giveOut 3 (some .int), .fieldLink RX1 9 "LoafMarks$Store" "flour" "I", .methodLink RX1 21 Lib.Math.min.name, .static Lib.Math.min.name, .initialized "java/lang/Math", .code Lib.Math.min.name Lib.Math.min.code 2 (some .int)] ++ wsX20 ++ wsX00 ++ wsX10)
def wsX2_feedAllWeevils : List Cond := .code yX2_feedAllWeevils cX2_feedAllWeevils 5 none :: ([.fieldLink RX2 17 "LoafMarks$Town" "stores" "[LLoafMarks$Store;", .methodLink RX2 136 yX1_feedWeevils, .instanceMethod yX1_feedWeevils, .selects RX1 yX1_feedWeevils yX1_feedWeevils, .initialized RX1, .code yX1_feedWeevils cX1_feedWeevils 1 none, .fieldLink RX1 18 "LoafMarks$Store" "eaten" "I", .fieldLink RX1 15 "LoafMarks$Store" "weevils" "I", .fieldLink RX1 9 "LoafMarks$Store" "flour" "I", .methodLink RX1 21 Lib.Math.min.name, .static Lib.Math.min.name, .initialized "java/lang/Math", .code Lib.Math.min.name Lib.Math.min.code 2 (some .int), .methodLink RX1 27 yX1_giveOut, .instanceMethod yX1_giveOut, .selects RX1 yX1_giveOut yX1_giveOut, .code yX1_giveOut cX1_giveOut 3 (some .int)] ++ wsX20 ++ wsX10)
def wsX2_bakeAll : List Cond := .code yX2_bakeAll cX2_bakeAll 5 none :: ([.fieldLink RX2 23 "LoafMarks$Town" "bakers" "[LLoafMarks$Baker;", .methodLink RX2 139 yX0_bake, .instanceMethod yX0_bake, .selects RX0 yX0_bake yX0_bake, .initialized RX0, .code yX0_bake cX0_bake 2 none, .fieldLink RX0 33 "LoafMarks$Baker" "barred" "Z", .fieldLink RX0 18 "LoafMarks$Baker" "weight" "I", .fieldLink RX0 24 "LoafMarks$Baker" "atHand" "I", .methodLink RX0 37 Lib.Math.min.name, .static Lib.Math.min.name, .initialized "java/lang/Math", .code Lib.Math.min.name Lib.Math.min.code 2 (some .int), .fieldLink RX0 27 "LoafMarks$Baker" "shelf" "I"] ++ wsX20 ++ wsX00)
def wsX2_sellAtNoon : List Cond := .code yX2_sellAtNoon cX2_sellAtNoon 7 (some .int) :: ([.fieldLink RX2 27 "LoafMarks$Town" "people" "I", .fieldLink RX2 23 "LoafMarks$Town" "bakers" "[LLoafMarks$Baker;", .fieldLink RX2 34 "LoafMarks$Town" "bought" "I", .fieldLink RX2 37 "LoafMarks$Town" "light" "I", .fieldLink RX2 40 "LoafMarks$Town" "hungry" "I", .methodLink RX2 142 yX0_sell, .instanceMethod yX0_sell, .selects RX0 yX0_sell yX0_sell, .initialized RX0, .code yX0_sell cX0_sell 3 (some .int), .fieldLink RX0 27 "LoafMarks$Baker" "shelf" "I", .methodLink RX0 37 Lib.Math.min.name, .static Lib.Math.min.name, .initialized "java/lang/Math", .code Lib.Math.min.name Lib.Math.min.code 2 (some .int), .fieldLink RX0 30 "LoafMarks$Baker" "sold" "I", .methodLink RX2 145 yX0_bakesLight, .instanceMethod yX0_bakesLight, .selects RX0 yX0_bakesLight yX0_bakesLight, .code yX0_bakesLight cX0_bakesLight 1 (some .boolean), .fieldLink RX0 18 "LoafMarks$Baker" "weight" "I"] ++ wsX20 ++ wsX00)
def wsX2_goThroughHour_r1 : List Cond := [Cond.fieldLink RX2 31 "LoafMarks$Town" "hour" "I", Cond.methodLink RX2 85 yX2_hourOfDay, Cond.instanceMethod yX2_hourOfDay, Cond.selects RX2 yX2_hourOfDay yX2_hourOfDay, Cond.initialized RX2, Cond.code yX2_hourOfDay cX2_hourOfDay 1 (some .int), Cond.methodLink RX2 104 yJ9_floorMod_7cf53, Cond.static yJ9_floorMod_7cf53, Cond.initialized RJ9, Cond.code yJ9_floorMod_7cf53 cJ9_floorMod_7cf53 3 (some .int), Cond.methodLink RX2 46 yX2_gateAt, Cond.instanceMethod yX2_gateAt, Cond.selects RX2 yX2_gateAt yX2_gateAt, Cond.code yX2_gateAt cX2_gateAt 2 (some .int), Cond.fieldLink RX2 9 "LoafMarks$Town" "gate" "[I", Cond.methodLink RX2 88 yX2_unloadCarts, Cond.instanceMethod yX2_unloadCarts, Cond.selects RX2 yX2_unloadCarts yX2_unloadCarts, Cond.code yX2_unloadCarts cX2_unloadCarts 3 none, Cond.fieldLink RX2 43 "LoafMarks$Town" "lost" "I", Cond.methodLink RX2 110 yX2_emptiestStore, Cond.instanceMethod yX2_emptiestStore, Cond.selects RX2 yX2_emptiestStore yX2_emptiestStore, Cond.code yX2_emptiestStore cX2_emptiestStore 6 (some (.object "LoafMarks$Store"))]
def wsX2_goThroughHour_r2 : List Cond := [Cond.fieldLink RX2 17 "LoafMarks$Town" "stores" "[LLoafMarks$Store;", Cond.fieldLink RX2 117 "LoafMarks$Store" "flour" "I", Cond.methodLink RX2 114 yX1_takeIn, Cond.instanceMethod yX1_takeIn, Cond.selects RX1 yX1_takeIn yX1_takeIn, Cond.initialized RX1, Cond.code yX1_takeIn cX1_takeIn 3 (some .int), Cond.fieldLink RX1 9 "LoafMarks$Store" "flour" "I", Cond.methodLink RX1 21 Lib.Math.min.name, Cond.static Lib.Math.min.name, Cond.initialized "java/lang/Math", Cond.code Lib.Math.min.name Lib.Math.min.code 2 (some .int), Cond.methodLink RX2 92 yX2_dealRations, Cond.instanceMethod yX2_dealRations, Cond.selects RX2 yX2_dealRations yX2_dealRations, Cond.code yX2_dealRations cX2_dealRations 6 none, Cond.fieldLink RX2 23 "LoafMarks$Town" "bakers" "[LLoafMarks$Baker;", Cond.fieldLink RX2 120 "LoafMarks$Baker" "barred" "Z", Cond.fieldLink RX2 124 "LoafMarks$Baker" "storeNumber" "I", Cond.fieldLink RX2 127 "LoafMarks$Baker" "atHand" "I", Cond.fieldLink RX2 130 "LoafMarks$Baker" "ration" "I", Cond.methodLink RX2 57 yX2_storeAt, Cond.instanceMethod yX2_storeAt, Cond.selects RX2 yX2_storeAt yX2_storeAt]
def wsX2_goThroughHour_r3 : List Cond := [Cond.code yX2_storeAt cX2_storeAt 2 (some (.object "LoafMarks$Store")), Cond.methodLink RX2 133 yX1_giveOut, Cond.instanceMethod yX1_giveOut, Cond.selects RX1 yX1_giveOut yX1_giveOut, Cond.code yX1_giveOut cX1_giveOut 3 (some .int), Cond.methodLink RX2 95 yX2_feedAllWeevils, Cond.instanceMethod yX2_feedAllWeevils, Cond.selects RX2 yX2_feedAllWeevils yX2_feedAllWeevils, Cond.code yX2_feedAllWeevils cX2_feedAllWeevils 5 none, Cond.methodLink RX2 136 yX1_feedWeevils, Cond.instanceMethod yX1_feedWeevils, Cond.selects RX1 yX1_feedWeevils yX1_feedWeevils, Cond.code yX1_feedWeevils cX1_feedWeevils 1 none, Cond.fieldLink RX1 18 "LoafMarks$Store" "eaten" "I", Cond.fieldLink RX1 15 "LoafMarks$Store" "weevils" "I", Cond.methodLink RX1 27 yX1_giveOut, Cond.methodLink RX2 98 yX2_bakeAll, Cond.instanceMethod yX2_bakeAll, Cond.selects RX2 yX2_bakeAll yX2_bakeAll, Cond.code yX2_bakeAll cX2_bakeAll 5 none, Cond.methodLink RX2 139 yX0_bake, Cond.instanceMethod yX0_bake, Cond.selects RX0 yX0_bake yX0_bake, Cond.initialized RX0]
def wsX2_goThroughHour_r4 : List Cond := [Cond.code yX0_bake cX0_bake 2 none, Cond.fieldLink RX0 33 "LoafMarks$Baker" "barred" "Z", Cond.fieldLink RX0 18 "LoafMarks$Baker" "weight" "I", Cond.fieldLink RX0 24 "LoafMarks$Baker" "atHand" "I", Cond.methodLink RX0 37 Lib.Math.min.name, Cond.fieldLink RX0 27 "LoafMarks$Baker" "shelf" "I", Cond.methodLink RX2 101 yX2_sellAtNoon, Cond.instanceMethod yX2_sellAtNoon, Cond.selects RX2 yX2_sellAtNoon yX2_sellAtNoon, Cond.code yX2_sellAtNoon cX2_sellAtNoon 7 (some .int), Cond.fieldLink RX2 27 "LoafMarks$Town" "people" "I", Cond.fieldLink RX2 34 "LoafMarks$Town" "bought" "I", Cond.fieldLink RX2 37 "LoafMarks$Town" "light" "I", Cond.fieldLink RX2 40 "LoafMarks$Town" "hungry" "I", Cond.methodLink RX2 142 yX0_sell, Cond.instanceMethod yX0_sell, Cond.selects RX0 yX0_sell yX0_sell, Cond.code yX0_sell cX0_sell 3 (some .int), Cond.fieldLink RX0 30 "LoafMarks$Baker" "sold" "I", Cond.methodLink RX2 145 yX0_bakesLight, Cond.instanceMethod yX0_bakesLight, Cond.selects RX0 yX0_bakesLight yX0_bakesLight, Cond.code yX0_bakesLight cX0_bakesLight 1 (some .boolean)]
def wsX2_goThroughHour : List Cond := .code yX2_goThroughHour cX2_goThroughHour 3 (some .int) :: ((wsX2_goThroughHour_r1 ++ (wsX2_goThroughHour_r2 ++ (wsX2_goThroughHour_r3 ++ wsX2_goThroughHour_r4))) ++ wsX20 ++ wsX10 ++ wsX00)
def wsX2_goThrough_r1 : List Cond := [Cond.methodLink RX2 81 yX2_goThroughHour, Cond.instanceMethod yX2_goThroughHour, Cond.selects RX2 yX2_goThroughHour yX2_goThroughHour, Cond.initialized RX2, Cond.code yX2_goThroughHour cX2_goThroughHour 3 (some .int), Cond.fieldLink RX2 31 "LoafMarks$Town" "hour" "I", Cond.methodLink RX2 85 yX2_hourOfDay, Cond.instanceMethod yX2_hourOfDay, Cond.selects RX2 yX2_hourOfDay yX2_hourOfDay, Cond.code yX2_hourOfDay cX2_hourOfDay 1 (some .int), Cond.methodLink RX2 104 yJ9_floorMod_7cf53, Cond.static yJ9_floorMod_7cf53, Cond.initialized RJ9, Cond.code yJ9_floorMod_7cf53 cJ9_floorMod_7cf53 3 (some .int), Cond.methodLink RX2 46 yX2_gateAt, Cond.instanceMethod yX2_gateAt, Cond.selects RX2 yX2_gateAt yX2_gateAt, Cond.code yX2_gateAt cX2_gateAt 2 (some .int), Cond.fieldLink RX2 9 "LoafMarks$Town" "gate" "[I", Cond.methodLink RX2 88 yX2_unloadCarts, Cond.instanceMethod yX2_unloadCarts, Cond.selects RX2 yX2_unloadCarts yX2_unloadCarts, Cond.code yX2_unloadCarts cX2_unloadCarts 3 none, Cond.fieldLink RX2 43 "LoafMarks$Town" "lost" "I"]
def wsX2_goThrough_r2 : List Cond := [Cond.methodLink RX2 110 yX2_emptiestStore, Cond.instanceMethod yX2_emptiestStore, Cond.selects RX2 yX2_emptiestStore yX2_emptiestStore, Cond.code yX2_emptiestStore cX2_emptiestStore 6 (some (.object "LoafMarks$Store")), Cond.fieldLink RX2 17 "LoafMarks$Town" "stores" "[LLoafMarks$Store;", Cond.fieldLink RX2 117 "LoafMarks$Store" "flour" "I", Cond.methodLink RX2 114 yX1_takeIn, Cond.instanceMethod yX1_takeIn, Cond.selects RX1 yX1_takeIn yX1_takeIn, Cond.initialized RX1, Cond.code yX1_takeIn cX1_takeIn 3 (some .int), Cond.fieldLink RX1 9 "LoafMarks$Store" "flour" "I", Cond.methodLink RX1 21 Lib.Math.min.name, Cond.static Lib.Math.min.name, Cond.initialized "java/lang/Math", Cond.code Lib.Math.min.name Lib.Math.min.code 2 (some .int), Cond.methodLink RX2 92 yX2_dealRations, Cond.instanceMethod yX2_dealRations, Cond.selects RX2 yX2_dealRations yX2_dealRations, Cond.code yX2_dealRations cX2_dealRations 6 none, Cond.fieldLink RX2 23 "LoafMarks$Town" "bakers" "[LLoafMarks$Baker;", Cond.fieldLink RX2 120 "LoafMarks$Baker" "barred" "Z", Cond.fieldLink RX2 124 "LoafMarks$Baker" "storeNumber" "I", Cond.fieldLink RX2 127 "LoafMarks$Baker" "atHand" "I"]
def wsX2_goThrough_r3 : List Cond := [Cond.fieldLink RX2 130 "LoafMarks$Baker" "ration" "I", Cond.methodLink RX2 57 yX2_storeAt, Cond.instanceMethod yX2_storeAt, Cond.selects RX2 yX2_storeAt yX2_storeAt, Cond.code yX2_storeAt cX2_storeAt 2 (some (.object "LoafMarks$Store")), Cond.methodLink RX2 133 yX1_giveOut, Cond.instanceMethod yX1_giveOut, Cond.selects RX1 yX1_giveOut yX1_giveOut, Cond.code yX1_giveOut cX1_giveOut 3 (some .int), Cond.methodLink RX2 95 yX2_feedAllWeevils, Cond.instanceMethod yX2_feedAllWeevils, Cond.selects RX2 yX2_feedAllWeevils yX2_feedAllWeevils, Cond.code yX2_feedAllWeevils cX2_feedAllWeevils 5 none, Cond.methodLink RX2 136 yX1_feedWeevils, Cond.instanceMethod yX1_feedWeevils, Cond.selects RX1 yX1_feedWeevils yX1_feedWeevils, Cond.code yX1_feedWeevils cX1_feedWeevils 1 none, Cond.fieldLink RX1 18 "LoafMarks$Store" "eaten" "I", Cond.fieldLink RX1 15 "LoafMarks$Store" "weevils" "I", Cond.methodLink RX1 27 yX1_giveOut, Cond.methodLink RX2 98 yX2_bakeAll, Cond.instanceMethod yX2_bakeAll, Cond.selects RX2 yX2_bakeAll yX2_bakeAll, Cond.code yX2_bakeAll cX2_bakeAll 5 none]
def wsX2_goThrough_r4 : List Cond := [Cond.methodLink RX2 139 yX0_bake, Cond.instanceMethod yX0_bake, Cond.selects RX0 yX0_bake yX0_bake, Cond.initialized RX0, Cond.code yX0_bake cX0_bake 2 none, Cond.fieldLink RX0 33 "LoafMarks$Baker" "barred" "Z", Cond.fieldLink RX0 18 "LoafMarks$Baker" "weight" "I", Cond.fieldLink RX0 24 "LoafMarks$Baker" "atHand" "I", Cond.methodLink RX0 37 Lib.Math.min.name, Cond.fieldLink RX0 27 "LoafMarks$Baker" "shelf" "I", Cond.methodLink RX2 101 yX2_sellAtNoon, Cond.instanceMethod yX2_sellAtNoon, Cond.selects RX2 yX2_sellAtNoon yX2_sellAtNoon, Cond.code yX2_sellAtNoon cX2_sellAtNoon 7 (some .int), Cond.fieldLink RX2 27 "LoafMarks$Town" "people" "I", Cond.fieldLink RX2 34 "LoafMarks$Town" "bought" "I", Cond.fieldLink RX2 37 "LoafMarks$Town" "light" "I", Cond.fieldLink RX2 40 "LoafMarks$Town" "hungry" "I", Cond.methodLink RX2 142 yX0_sell, Cond.instanceMethod yX0_sell, Cond.selects RX0 yX0_sell yX0_sell, Cond.code yX0_sell cX0_sell 3 (some .int), Cond.fieldLink RX0 30 "LoafMarks$Baker" "sold" "I", Cond.methodLink RX2 145 yX0_bakesLight]
def wsX2_goThrough_r5 : List Cond := [Cond.instanceMethod yX0_bakesLight, Cond.selects RX0 yX0_bakesLight yX0_bakesLight, Cond.code yX0_bakesLight cX0_bakesLight 1 (some .boolean)]
def wsX2_goThrough : List Cond := .code yX2_goThrough cX2_goThrough 4 (some .int) :: ((wsX2_goThrough_r1 ++ (wsX2_goThrough_r2 ++ (wsX2_goThrough_r3 ++ (wsX2_goThrough_r4 ++ wsX2_goThrough_r5)))) ++ wsX20 ++ wsX10 ++ wsX00)
def wsX2_flourOfAll : List Cond := .code yX2_flourOfAll cX2_flourOfAll 6 (some .int) :: ([.fieldLink RX2 17 "LoafMarks$Town" "stores" "[LLoafMarks$Store;", .fieldLink RX2 117 "LoafMarks$Store" "flour" "I"] ++ wsX20 ++ wsX10)
def wsX2_weevilsOfAll : List Cond := .code yX2_weevilsOfAll cX2_weevilsOfAll 6 (some .int) :: ([.fieldLink RX2 17 "LoafMarks$Town" "stores" "[LLoafMarks$Store;", .fieldLink RX2 149 "LoafMarks$Store" "weevils" "I"] ++ wsX20 ++ wsX10)
def wsX2_loavesOfAll : List Cond := .code yX2_loavesOfAll cX2_loavesOfAll 6 (some .int) :: ([.fieldLink RX2 23 "LoafMarks$Town" "bakers" "[LLoafMarks$Baker;", .fieldLink RX2 152 "LoafMarks$Baker" "shelf" "I"] ++ wsX20 ++ wsX00)
def wsX2_bakersOfStore : List Cond := .code yX2_bakersOfStore cX2_bakersOfStore 7 (some .int) :: ([.fieldLink RX2 23 "LoafMarks$Town" "bakers" "[LLoafMarks$Baker;", .fieldLink RX2 124 "LoafMarks$Baker" "storeNumber" "I"] ++ wsX20 ++ wsX00)
def wsX2_barredBakers : List Cond := .code yX2_barredBakers cX2_barredBakers 6 (some .int) :: ([.fieldLink RX2 23 "LoafMarks$Town" "bakers" "[LLoafMarks$Baker;", .fieldLink RX2 120 "LoafMarks$Baker" "barred" "Z"] ++ wsX20 ++ wsX00)
def wsX2_storeFact : List Cond := .code yX2_storeFact cX2_storeFact 4 (some .int) :: ([.fieldLink RX2 117 "LoafMarks$Store" "flour" "I", .fieldLink RX2 149 "LoafMarks$Store" "weevils" "I", .fieldLink RX2 158 "LoafMarks$Store" "eaten" "I", .methodLink RX2 57 yX2_storeAt, .instanceMethod yX2_storeAt, .selects RX2 yX2_storeAt yX2_storeAt, .initialized RX2, .code yX2_storeAt cX2_storeAt 2 (some (.object "LoafMarks$Store")), .fieldLink RX2 17 "LoafMarks$Town" "stores" "[LLoafMarks$Store;", .methodLink RX2 155 yX2_bakersOfStore, .instanceMethod yX2_bakersOfStore, .selects RX2 yX2_bakersOfStore yX2_bakersOfStore, .code yX2_bakersOfStore cX2_bakersOfStore 7 (some .int), .fieldLink RX2 23 "LoafMarks$Town" "bakers" "[LLoafMarks$Baker;", .fieldLink RX2 124 "LoafMarks$Baker" "storeNumber" "I"] ++ wsX10 ++ wsX20 ++ wsX00)
def wsX2_fact_r1 : List Cond := [Cond.fieldLink RX2 31 "LoafMarks$Town" "hour" "I", Cond.fieldLink RX2 27 "LoafMarks$Town" "people" "I", Cond.fieldLink RX2 34 "LoafMarks$Town" "bought" "I", Cond.fieldLink RX2 37 "LoafMarks$Town" "light" "I", Cond.fieldLink RX2 40 "LoafMarks$Town" "hungry" "I", Cond.fieldLink RX2 43 "LoafMarks$Town" "lost" "I", Cond.methodLink RX2 85 yX2_hourOfDay, Cond.instanceMethod yX2_hourOfDay, Cond.selects RX2 yX2_hourOfDay yX2_hourOfDay, Cond.initialized RX2, Cond.code yX2_hourOfDay cX2_hourOfDay 1 (some .int), Cond.methodLink RX2 104 yJ9_floorMod_7cf53, Cond.static yJ9_floorMod_7cf53, Cond.initialized RJ9, Cond.code yJ9_floorMod_7cf53 cJ9_floorMod_7cf53 3 (some .int), Cond.methodLink RX2 161 yX2_flourOfAll, Cond.instanceMethod yX2_flourOfAll, Cond.selects RX2 yX2_flourOfAll yX2_flourOfAll, Cond.code yX2_flourOfAll cX2_flourOfAll 6 (some .int), Cond.fieldLink RX2 17 "LoafMarks$Town" "stores" "[LLoafMarks$Store;", Cond.fieldLink RX2 117 "LoafMarks$Store" "flour" "I", Cond.methodLink RX2 164 yX2_loavesOfAll, Cond.instanceMethod yX2_loavesOfAll, Cond.selects RX2 yX2_loavesOfAll yX2_loavesOfAll]
def wsX2_fact_r2 : List Cond := [Cond.code yX2_loavesOfAll cX2_loavesOfAll 6 (some .int), Cond.fieldLink RX2 23 "LoafMarks$Town" "bakers" "[LLoafMarks$Baker;", Cond.fieldLink RX2 152 "LoafMarks$Baker" "shelf" "I", Cond.methodLink RX2 167 yX2_barredBakers, Cond.instanceMethod yX2_barredBakers, Cond.selects RX2 yX2_barredBakers yX2_barredBakers, Cond.code yX2_barredBakers cX2_barredBakers 6 (some .int), Cond.fieldLink RX2 120 "LoafMarks$Baker" "barred" "Z"]
def wsX2_fact : List Cond := .code yX2_fact cX2_fact 2 (some .int) :: ((wsX2_fact_r1 ++ wsX2_fact_r2) ++ wsX20 ++ wsX10 ++ wsX00)
def wsX3_init : List Cond := .code yX3_init cX3_init 1 none :: ([.methodLink RX3 1 objectInit, .instanceMethod objectInit, .code objectInit ⟨#[0xb1]⟩ 1 none, .classLink RX3 7 RX2, .instantiable RX2 9, .initialized RX2, .fieldLink RX3 10 "LoafMarks" "town" "LLoafMarks$Town;", .fieldLink RX3 16 "LoafMarks" "trial" "LLoafMarks$Town;", .instanceMethod yX2_init, .code yX2_init cX2_init 1 none, .methodLink RX2 3 objectInit, .arrayClass .int, .fieldLink RX2 9 "LoafMarks$Town" "gate" "[I", .classLink RX2 15 RX1, .fieldLink RX2 17 "LoafMarks$Town" "stores" "[LLoafMarks$Store;", .classLink RX2 21 RX0, .fieldLink RX2 23 "LoafMarks$Town" "bakers" "[LLoafMarks$Baker;", .fieldLink RX2 27 "LoafMarks$Town" "people" "I"] ++ wsX20 ++ wsX30)
def wsX3_isWithin : List Cond := .code yX3_isWithin cX3_isWithin 3 (some .boolean) :: ([])
def wsX3_setPeople : List Cond := .code yX3_setPeople cX3_setPeople 3 (some .int) :: ([.classLink RX3 23 "java/lang/IllegalArgumentException", .initialized "java/lang/IllegalArgumentException", .fieldLink RX3 10 "LoafMarks" "town" "LLoafMarks$Town;", .fieldLink RX3 30 "LoafMarks$Town" "people" "I", .methodLink RX3 19 yX3_isWithin, .static yX3_isWithin, .initialized RX3, .code yX3_isWithin cX3_isWithin 3 (some .boolean)] ++ wsX30 ++ wsX20 ++ (vx_atS RX3 27 "java/lang/IllegalArgumentException" ["java/lang/RuntimeException", "java/lang/Exception"]).filter goodWord)
def wsX3_setGate : List Cond := .code yX3_setGate cX3_setGate 3 (some .int) :: ([.classLink RX3 34 "java/lang/IndexOutOfBoundsException", .initialized "java/lang/IndexOutOfBoundsException", .classLink RX3 23 "java/lang/IllegalArgumentException", .initialized "java/lang/IllegalArgumentException", .fieldLink RX3 10 "LoafMarks" "town" "LLoafMarks$Town;", .methodLink RX3 19 yX3_isWithin, .static yX3_isWithin, .initialized RX3, .code yX3_isWithin cX3_isWithin 3 (some .boolean), .methodLink RX3 41 yX2_changeGate, .instanceMethod yX2_changeGate, .selects RX2 yX2_changeGate yX2_changeGate, .initialized RX2, .code yX2_changeGate cX2_changeGate 4 (some .int), .fieldLink RX2 9 "LoafMarks$Town" "gate" "[I", .methodLink RX2 46 yX2_gateAt, .instanceMethod yX2_gateAt, .selects RX2 yX2_gateAt yX2_gateAt, .code yX2_gateAt cX2_gateAt 2 (some .int)] ++ wsX30 ++ wsX20 ++ (vx_atS RX3 38 "java/lang/IndexOutOfBoundsException" ["java/lang/RuntimeException", "java/lang/Exception"]).filter goodWord ++ (vx_atS RX3 27 "java/lang/IllegalArgumentException" ["java/lang/RuntimeException", "java/lang/Exception"]).filter goodWord)
def wsX3_open_r1 : List Cond := [Cond.classLink RX3 23 "java/lang/IllegalArgumentException", Cond.initialized "java/lang/IllegalArgumentException", Cond.classLink RX3 52 "java/lang/IllegalStateException", Cond.initialized "java/lang/IllegalStateException", Cond.fieldLink RX3 10 "LoafMarks" "town" "LLoafMarks$Town;", Cond.methodLink RX3 19 yX3_isWithin, Cond.static yX3_isWithin, Cond.initialized RX3, Cond.code yX3_isWithin cX3_isWithin 3 (some .boolean), Cond.methodLink RX3 49 yX2_addStore, Cond.instanceMethod yX2_addStore, Cond.selects RX2 yX2_addStore yX2_addStore, Cond.initialized RX2, Cond.code yX2_addStore cX2_addStore 4 (some .int), Cond.fieldLink RX2 17 "LoafMarks$Town" "stores" "[LLoafMarks$Store;", Cond.classLink RX2 15 RX1, Cond.instantiable RX1 3, Cond.initialized RX1, Cond.methodLink RX2 61 yX1_init, Cond.instanceMethod yX1_init, Cond.code yX1_init cX1_init 3 none, Cond.methodLink RX1 3 objectInit, Cond.instanceMethod objectInit, Cond.code objectInit ⟨#[0xb1]⟩ 1 none]
def wsX3_open_r2 : List Cond := [Cond.fieldLink RX1 9 "LoafMarks$Store" "flour" "I", Cond.fieldLink RX1 15 "LoafMarks$Store" "weevils" "I"]
def wsX3_open : List Cond := .code yX3_open cX3_open 4 (some .int) :: ((wsX3_open_r1 ++ wsX3_open_r2) ++ wsX30 ++ wsX20 ++ wsX10 ++ (vx_atS RX3 27 "java/lang/IllegalArgumentException" ["java/lang/RuntimeException", "java/lang/Exception"]).filter goodWord ++ (vx_atS RX3 56 "java/lang/IllegalStateException" ["java/lang/RuntimeException", "java/lang/Exception"]).filter goodWord)
def wsX3_smoke : List Cond := .code yX3_smoke cX3_smoke 3 (some .int) :: ([.classLink RX3 34 "java/lang/IndexOutOfBoundsException", .initialized "java/lang/IndexOutOfBoundsException", .fieldLink RX3 10 "LoafMarks" "town" "LLoafMarks$Town;", .methodLink RX3 57 yX2_storeAt, .instanceMethod yX2_storeAt, .selects RX2 yX2_storeAt yX2_storeAt, .initialized RX2, .code yX2_storeAt cX2_storeAt 2 (some (.object "LoafMarks$Store")), .fieldLink RX2 17 "LoafMarks$Town" "stores" "[LLoafMarks$Store;", .methodLink RX3 63 yX1_smokeOut, .instanceMethod yX1_smokeOut, .selects RX1 yX1_smokeOut yX1_smokeOut, .initialized RX1, .code yX1_smokeOut cX1_smokeOut 2 (some .int), .fieldLink RX1 15 "LoafMarks$Store" "weevils" "I", .fieldLink RX1 9 "LoafMarks$Store" "flour" "I"] ++ wsX30 ++ wsX20 ++ wsX10 ++ (vx_atS RX3 38 "java/lang/IndexOutOfBoundsException" ["java/lang/RuntimeException", "java/lang/Exception"]).filter goodWord)
def wsX3_swear_r1 : List Cond := [Cond.classLink RX3 34 "java/lang/IndexOutOfBoundsException", Cond.initialized "java/lang/IndexOutOfBoundsException", Cond.classLink RX3 23 "java/lang/IllegalArgumentException", Cond.initialized "java/lang/IllegalArgumentException", Cond.classLink RX3 52 "java/lang/IllegalStateException", Cond.initialized "java/lang/IllegalStateException", Cond.fieldLink RX3 10 "LoafMarks" "town" "LLoafMarks$Town;", Cond.methodLink RX3 57 yX2_storeAt, Cond.instanceMethod yX2_storeAt, Cond.selects RX2 yX2_storeAt yX2_storeAt, Cond.initialized RX2, Cond.code yX2_storeAt cX2_storeAt 2 (some (.object "LoafMarks$Store")), Cond.fieldLink RX2 17 "LoafMarks$Town" "stores" "[LLoafMarks$Store;", Cond.methodLink RX3 19 yX3_isWithin, Cond.static yX3_isWithin, Cond.initialized RX3, Cond.code yX3_isWithin cX3_isWithin 3 (some .boolean), Cond.methodLink RX3 75 yX2_bakerWithMark, Cond.instanceMethod yX2_bakerWithMark, Cond.selects RX2 yX2_bakerWithMark yX2_bakerWithMark, Cond.code yX2_bakerWithMark cX2_bakerWithMark 4 (some .int), Cond.fieldLink RX2 23 "LoafMarks$Town" "bakers" "[LLoafMarks$Baker;", Cond.fieldLink RX2 78 "LoafMarks$Baker" "mark" "I", Cond.methodLink RX3 81 yX2_addBaker]
def wsX3_swear_r2 : List Cond := [Cond.instanceMethod yX2_addBaker, Cond.selects RX2 yX2_addBaker yX2_addBaker, Cond.code yX2_addBaker cX2_addBaker 6 (some .int), Cond.classLink RX2 21 RX0, Cond.instantiable RX0 8, Cond.initialized RX0, Cond.methodLink RX2 72 yX0_init, Cond.instanceMethod yX0_init, Cond.code yX0_init cX0_init 5 none, Cond.methodLink RX0 3 objectInit, Cond.instanceMethod objectInit, Cond.code objectInit ⟨#[0xb1]⟩ 1 none, Cond.fieldLink RX0 9 "LoafMarks$Baker" "storeNumber" "I", Cond.fieldLink RX0 15 "LoafMarks$Baker" "mark" "I", Cond.fieldLink RX0 18 "LoafMarks$Baker" "weight" "I", Cond.fieldLink RX0 21 "LoafMarks$Baker" "ration" "I"]
def wsX3_swear : List Cond := .code yX3_swear cX3_swear 6 (some .int) :: ((wsX3_swear_r1 ++ wsX3_swear_r2) ++ wsX30 ++ wsX20 ++ wsX00 ++ (vx_atS RX3 38 "java/lang/IndexOutOfBoundsException" ["java/lang/RuntimeException", "java/lang/Exception"]).filter goodWord ++ (vx_atS RX3 27 "java/lang/IllegalArgumentException" ["java/lang/RuntimeException", "java/lang/Exception"]).filter goodWord ++ (vx_atS RX3 56 "java/lang/IllegalStateException" ["java/lang/RuntimeException", "java/lang/Exception"]).filter goodWord)
def wsX3_deal : List Cond := .code yX3_deal cX3_deal 5 (some .int) :: ([.classLink RX3 34 "java/lang/IndexOutOfBoundsException", .initialized "java/lang/IndexOutOfBoundsException", .classLink RX3 23 "java/lang/IllegalArgumentException", .initialized "java/lang/IllegalArgumentException", .fieldLink RX3 10 "LoafMarks" "town" "LLoafMarks$Town;", .fieldLink RX3 93 "LoafMarks$Baker" "ration" "I", .methodLink RX3 87 yX2_bakerAt, .instanceMethod yX2_bakerAt, .selects RX2 yX2_bakerAt yX2_bakerAt, .initialized RX2, .code yX2_bakerAt cX2_bakerAt 2 (some (.object "LoafMarks$Baker")), .fieldLink RX2 23 "LoafMarks$Town" "bakers" "[LLoafMarks$Baker;", .methodLink RX3 19 yX3_isWithin, .static yX3_isWithin, .initialized RX3, .code yX3_isWithin cX3_isWithin 3 (some .boolean)] ++ wsX30 ++ wsX00 ++ wsX20 ++ (vx_atS RX3 38 "java/lang/IndexOutOfBoundsException" ["java/lang/RuntimeException", "java/lang/Exception"]).filter goodWord ++ (vx_atS RX3 27 "java/lang/IllegalArgumentException" ["java/lang/RuntimeException", "java/lang/Exception"]).filter goodWord)
def wsX3_weigh : List Cond := .code yX3_weigh cX3_weigh 3 (some .int) :: ([.classLink RX3 34 "java/lang/IndexOutOfBoundsException", .initialized "java/lang/IndexOutOfBoundsException", .classLink RX3 52 "java/lang/IllegalStateException", .initialized "java/lang/IllegalStateException", .fieldLink RX3 10 "LoafMarks" "town" "LLoafMarks$Town;", .fieldLink RX3 98 "LoafMarks$Baker" "shelf" "I", .methodLink RX3 87 yX2_bakerAt, .instanceMethod yX2_bakerAt, .selects RX2 yX2_bakerAt yX2_bakerAt, .initialized RX2, .code yX2_bakerAt cX2_bakerAt 2 (some (.object "LoafMarks$Baker")), .fieldLink RX2 23 "LoafMarks$Town" "bakers" "[LLoafMarks$Baker;", .methodLink RX3 103 yX0_inspect, .instanceMethod yX0_inspect, .selects RX0 yX0_inspect yX0_inspect, .initialized RX0, .code yX0_inspect cX0_inspect 1 (some .int), .fieldLink RX0 27 "LoafMarks$Baker" "shelf" "I", .fieldLink RX0 33 "LoafMarks$Baker" "barred" "Z", .fieldLink RX0 18 "LoafMarks$Baker" "weight" "I", .methodLink RX0 43 yX0_bakesLight, .instanceMethod yX0_bakesLight, .selects RX0 yX0_bakesLight yX0_bakesLight, .code yX0_bakesLight cX0_bakesLight 1 (some .boolean)] ++ wsX30 ++ wsX00 ++ wsX20 ++ (vx_atS RX3 38 "java/lang/IndexOutOfBoundsException" ["java/lang/RuntimeException", "java/lang/Exception"]).filter goodWord ++ (vx_atS RX3 56 "java/lang/IllegalStateException" ["java/lang/RuntimeException", "java/lang/Exception"]).filter goodWord)
def wsX3_pardon : List Cond := .code yX3_pardon cX3_pardon 3 (some .boolean) :: ([.classLink RX3 34 "java/lang/IndexOutOfBoundsException", .initialized "java/lang/IndexOutOfBoundsException", .fieldLink RX3 10 "LoafMarks" "town" "LLoafMarks$Town;", .methodLink RX3 87 yX2_bakerAt, .instanceMethod yX2_bakerAt, .selects RX2 yX2_bakerAt yX2_bakerAt, .initialized RX2, .code yX2_bakerAt cX2_bakerAt 2 (some (.object "LoafMarks$Baker")), .fieldLink RX2 23 "LoafMarks$Town" "bakers" "[LLoafMarks$Baker;", .methodLink RX3 106 yX0_forgive, .instanceMethod yX0_forgive, .selects RX0 yX0_forgive yX0_forgive, .initialized RX0, .code yX0_forgive cX0_forgive 2 (some .boolean), .fieldLink RX0 33 "LoafMarks$Baker" "barred" "Z", .fieldLink RX0 18 "LoafMarks$Baker" "weight" "I", .methodLink RX0 47 Lib.Math.max.name, .static Lib.Math.max.name, .initialized "java/lang/Math", .code Lib.Math.max.name Lib.Math.max.code 2 (some .int)] ++ wsX30 ++ wsX20 ++ wsX00 ++ (vx_atS RX3 38 "java/lang/IndexOutOfBoundsException" ["java/lang/RuntimeException", "java/lang/Exception"]).filter goodWord)
def wsX3_store_r1 : List Cond := [Cond.classLink RX3 34 "java/lang/IndexOutOfBoundsException", Cond.initialized "java/lang/IndexOutOfBoundsException", Cond.fieldLink RX3 10 "LoafMarks" "town" "LLoafMarks$Town;", Cond.methodLink RX3 57 yX2_storeAt, Cond.instanceMethod yX2_storeAt, Cond.selects RX2 yX2_storeAt yX2_storeAt, Cond.initialized RX2, Cond.code yX2_storeAt cX2_storeAt 2 (some (.object "LoafMarks$Store")), Cond.fieldLink RX2 17 "LoafMarks$Town" "stores" "[LLoafMarks$Store;", Cond.methodLink RX3 19 yX3_isWithin, Cond.static yX3_isWithin, Cond.initialized RX3, Cond.code yX3_isWithin cX3_isWithin 3 (some .boolean), Cond.methodLink RX3 112 yX2_storeFact, Cond.instanceMethod yX2_storeFact, Cond.selects RX2 yX2_storeFact yX2_storeFact, Cond.code yX2_storeFact cX2_storeFact 4 (some .int), Cond.fieldLink RX2 117 "LoafMarks$Store" "flour" "I", Cond.fieldLink RX2 149 "LoafMarks$Store" "weevils" "I", Cond.fieldLink RX2 158 "LoafMarks$Store" "eaten" "I", Cond.methodLink RX2 57 yX2_storeAt, Cond.methodLink RX2 155 yX2_bakersOfStore, Cond.instanceMethod yX2_bakersOfStore, Cond.selects RX2 yX2_bakersOfStore yX2_bakersOfStore]
def wsX3_store_r2 : List Cond := [Cond.code yX2_bakersOfStore cX2_bakersOfStore 7 (some .int), Cond.fieldLink RX2 23 "LoafMarks$Town" "bakers" "[LLoafMarks$Baker;", Cond.fieldLink RX2 124 "LoafMarks$Baker" "storeNumber" "I"]
def wsX3_store : List Cond := .code yX3_store cX3_store 3 (some .int) :: ((wsX3_store_r1 ++ wsX3_store_r2) ++ wsX30 ++ wsX20 ++ wsX10 ++ wsX00 ++ (vx_atS RX3 38 "java/lang/IndexOutOfBoundsException" ["java/lang/RuntimeException", "java/lang/Exception"]).filter goodWord)
def wsX3_baker_r1 : List Cond := [Cond.classLink RX3 34 "java/lang/IndexOutOfBoundsException", Cond.initialized "java/lang/IndexOutOfBoundsException", Cond.fieldLink RX3 10 "LoafMarks" "town" "LLoafMarks$Town;", Cond.methodLink RX3 87 yX2_bakerAt, Cond.instanceMethod yX2_bakerAt, Cond.selects RX2 yX2_bakerAt yX2_bakerAt, Cond.initialized RX2, Cond.code yX2_bakerAt cX2_bakerAt 2 (some (.object "LoafMarks$Baker")), Cond.fieldLink RX2 23 "LoafMarks$Town" "bakers" "[LLoafMarks$Baker;", Cond.methodLink RX3 19 yX3_isWithin, Cond.static yX3_isWithin, Cond.initialized RX3, Cond.code yX3_isWithin cX3_isWithin 3 (some .boolean), Cond.methodLink RX3 117 yX0_fact, Cond.instanceMethod yX0_fact, Cond.selects RX0 yX0_fact yX0_fact, Cond.initialized RX0, Cond.code yX0_fact cX0_fact 2 (some .int), Cond.fieldLink RX0 9 "LoafMarks$Baker" "storeNumber" "I", Cond.fieldLink RX0 15 "LoafMarks$Baker" "mark" "I", Cond.fieldLink RX0 21 "LoafMarks$Baker" "ration" "I", Cond.fieldLink RX0 24 "LoafMarks$Baker" "atHand" "I", Cond.fieldLink RX0 18 "LoafMarks$Baker" "weight" "I", Cond.fieldLink RX0 27 "LoafMarks$Baker" "shelf" "I"]
def wsX3_baker_r2 : List Cond := [Cond.fieldLink RX0 30 "LoafMarks$Baker" "sold" "I", Cond.fieldLink RX0 33 "LoafMarks$Baker" "barred" "Z"]
def wsX3_baker : List Cond := .code yX3_baker cX3_baker 4 (some .int) :: ((wsX3_baker_r1 ++ wsX3_baker_r2) ++ wsX30 ++ wsX20 ++ wsX00 ++ (vx_atS RX3 38 "java/lang/IndexOutOfBoundsException" ["java/lang/RuntimeException", "java/lang/Exception"]).filter goodWord)
def wsX3_whose : List Cond := .code yX3_whose cX3_whose 2 (some .int) :: ([.classLink RX3 23 "java/lang/IllegalArgumentException", .initialized "java/lang/IllegalArgumentException", .fieldLink RX3 10 "LoafMarks" "town" "LLoafMarks$Town;", .methodLink RX3 19 yX3_isWithin, .static yX3_isWithin, .initialized RX3, .code yX3_isWithin cX3_isWithin 3 (some .boolean), .methodLink RX3 75 yX2_bakerWithMark, .instanceMethod yX2_bakerWithMark, .selects RX2 yX2_bakerWithMark yX2_bakerWithMark, .initialized RX2, .code yX2_bakerWithMark cX2_bakerWithMark 4 (some .int), .fieldLink RX2 23 "LoafMarks$Town" "bakers" "[LLoafMarks$Baker;", .fieldLink RX2 78 "LoafMarks$Baker" "mark" "I"] ++ wsX30 ++ wsX20 ++ wsX00 ++ (vx_atS RX3 27 "java/lang/IllegalArgumentException" ["java/lang/RuntimeException", "java/lang/Exception"]).filter goodWord)
def wsX3_count_r1 : List Cond := [Cond.classLink RX3 34 "java/lang/IndexOutOfBoundsException", Cond.initialized "java/lang/IndexOutOfBoundsException", Cond.fieldLink RX3 10 "LoafMarks" "town" "LLoafMarks$Town;", Cond.methodLink RX3 19 yX3_isWithin, Cond.static yX3_isWithin, Cond.initialized RX3, Cond.code yX3_isWithin cX3_isWithin 3 (some .boolean), Cond.methodLink RX3 122 yX2_fact, Cond.instanceMethod yX2_fact, Cond.selects RX2 yX2_fact yX2_fact, Cond.initialized RX2, Cond.code yX2_fact cX2_fact 2 (some .int), Cond.fieldLink RX2 31 "LoafMarks$Town" "hour" "I", Cond.fieldLink RX2 27 "LoafMarks$Town" "people" "I", Cond.fieldLink RX2 34 "LoafMarks$Town" "bought" "I", Cond.fieldLink RX2 37 "LoafMarks$Town" "light" "I", Cond.fieldLink RX2 40 "LoafMarks$Town" "hungry" "I", Cond.fieldLink RX2 43 "LoafMarks$Town" "lost" "I", Cond.methodLink RX2 85 yX2_hourOfDay, Cond.instanceMethod yX2_hourOfDay, Cond.selects RX2 yX2_hourOfDay yX2_hourOfDay, Cond.code yX2_hourOfDay cX2_hourOfDay 1 (some .int), Cond.methodLink RX2 104 yJ9_floorMod_7cf53, Cond.static yJ9_floorMod_7cf53]
def wsX3_count_r2 : List Cond := [Cond.initialized RJ9, Cond.code yJ9_floorMod_7cf53 cJ9_floorMod_7cf53 3 (some .int), Cond.methodLink RX2 161 yX2_flourOfAll, Cond.instanceMethod yX2_flourOfAll, Cond.selects RX2 yX2_flourOfAll yX2_flourOfAll, Cond.code yX2_flourOfAll cX2_flourOfAll 6 (some .int), Cond.fieldLink RX2 17 "LoafMarks$Town" "stores" "[LLoafMarks$Store;", Cond.fieldLink RX2 117 "LoafMarks$Store" "flour" "I", Cond.methodLink RX2 164 yX2_loavesOfAll, Cond.instanceMethod yX2_loavesOfAll, Cond.selects RX2 yX2_loavesOfAll yX2_loavesOfAll, Cond.code yX2_loavesOfAll cX2_loavesOfAll 6 (some .int), Cond.fieldLink RX2 23 "LoafMarks$Town" "bakers" "[LLoafMarks$Baker;", Cond.fieldLink RX2 152 "LoafMarks$Baker" "shelf" "I", Cond.methodLink RX2 167 yX2_barredBakers, Cond.instanceMethod yX2_barredBakers, Cond.selects RX2 yX2_barredBakers yX2_barredBakers, Cond.code yX2_barredBakers cX2_barredBakers 6 (some .int), Cond.fieldLink RX2 120 "LoafMarks$Baker" "barred" "Z"]
def wsX3_count : List Cond := .code yX3_count cX3_count 2 (some .int) :: ((wsX3_count_r1 ++ wsX3_count_r2) ++ wsX30 ++ wsX20 ++ wsX10 ++ wsX00 ++ (vx_atS RX3 38 "java/lang/IndexOutOfBoundsException" ["java/lang/RuntimeException", "java/lang/Exception"]).filter goodWord)
def wsX3_pass_r1 : List Cond := [Cond.classLink RX3 23 "java/lang/IllegalArgumentException", Cond.initialized "java/lang/IllegalArgumentException", Cond.fieldLink RX3 10 "LoafMarks" "town" "LLoafMarks$Town;", Cond.methodLink RX3 19 yX3_isWithin, Cond.static yX3_isWithin, Cond.initialized RX3, Cond.code yX3_isWithin cX3_isWithin 3 (some .boolean), Cond.methodLink RX3 125 yX2_goThrough, Cond.instanceMethod yX2_goThrough, Cond.selects RX2 yX2_goThrough yX2_goThrough, Cond.initialized RX2, Cond.code yX2_goThrough cX2_goThrough 4 (some .int), Cond.methodLink RX2 81 yX2_goThroughHour, Cond.instanceMethod yX2_goThroughHour, Cond.selects RX2 yX2_goThroughHour yX2_goThroughHour, Cond.code yX2_goThroughHour cX2_goThroughHour 3 (some .int), Cond.fieldLink RX2 31 "LoafMarks$Town" "hour" "I", Cond.methodLink RX2 85 yX2_hourOfDay, Cond.instanceMethod yX2_hourOfDay, Cond.selects RX2 yX2_hourOfDay yX2_hourOfDay, Cond.code yX2_hourOfDay cX2_hourOfDay 1 (some .int), Cond.methodLink RX2 104 yJ9_floorMod_7cf53, Cond.static yJ9_floorMod_7cf53, Cond.initialized RJ9]
def wsX3_pass_r2 : List Cond := [Cond.code yJ9_floorMod_7cf53 cJ9_floorMod_7cf53 3 (some .int), Cond.methodLink RX2 46 yX2_gateAt, Cond.instanceMethod yX2_gateAt, Cond.selects RX2 yX2_gateAt yX2_gateAt, Cond.code yX2_gateAt cX2_gateAt 2 (some .int), Cond.fieldLink RX2 9 "LoafMarks$Town" "gate" "[I", Cond.methodLink RX2 88 yX2_unloadCarts, Cond.instanceMethod yX2_unloadCarts, Cond.selects RX2 yX2_unloadCarts yX2_unloadCarts, Cond.code yX2_unloadCarts cX2_unloadCarts 3 none, Cond.fieldLink RX2 43 "LoafMarks$Town" "lost" "I", Cond.methodLink RX2 110 yX2_emptiestStore, Cond.instanceMethod yX2_emptiestStore, Cond.selects RX2 yX2_emptiestStore yX2_emptiestStore, Cond.code yX2_emptiestStore cX2_emptiestStore 6 (some (.object "LoafMarks$Store")), Cond.fieldLink RX2 17 "LoafMarks$Town" "stores" "[LLoafMarks$Store;", Cond.fieldLink RX2 117 "LoafMarks$Store" "flour" "I", Cond.methodLink RX2 114 yX1_takeIn, Cond.instanceMethod yX1_takeIn, Cond.selects RX1 yX1_takeIn yX1_takeIn, Cond.initialized RX1, Cond.code yX1_takeIn cX1_takeIn 3 (some .int), Cond.fieldLink RX1 9 "LoafMarks$Store" "flour" "I", Cond.methodLink RX1 21 Lib.Math.min.name]
def wsX3_pass_r3 : List Cond := [Cond.static Lib.Math.min.name, Cond.initialized "java/lang/Math", Cond.code Lib.Math.min.name Lib.Math.min.code 2 (some .int), Cond.methodLink RX2 92 yX2_dealRations, Cond.instanceMethod yX2_dealRations, Cond.selects RX2 yX2_dealRations yX2_dealRations, Cond.code yX2_dealRations cX2_dealRations 6 none, Cond.fieldLink RX2 23 "LoafMarks$Town" "bakers" "[LLoafMarks$Baker;", Cond.fieldLink RX2 120 "LoafMarks$Baker" "barred" "Z", Cond.fieldLink RX2 124 "LoafMarks$Baker" "storeNumber" "I", Cond.fieldLink RX2 127 "LoafMarks$Baker" "atHand" "I", Cond.fieldLink RX2 130 "LoafMarks$Baker" "ration" "I", Cond.methodLink RX2 57 yX2_storeAt, Cond.instanceMethod yX2_storeAt, Cond.selects RX2 yX2_storeAt yX2_storeAt, Cond.code yX2_storeAt cX2_storeAt 2 (some (.object "LoafMarks$Store")), Cond.methodLink RX2 133 yX1_giveOut, Cond.instanceMethod yX1_giveOut, Cond.selects RX1 yX1_giveOut yX1_giveOut, Cond.code yX1_giveOut cX1_giveOut 3 (some .int), Cond.methodLink RX2 95 yX2_feedAllWeevils, Cond.instanceMethod yX2_feedAllWeevils, Cond.selects RX2 yX2_feedAllWeevils yX2_feedAllWeevils, Cond.code yX2_feedAllWeevils cX2_feedAllWeevils 5 none]
def wsX3_pass_r4 : List Cond := [Cond.methodLink RX2 136 yX1_feedWeevils, Cond.instanceMethod yX1_feedWeevils, Cond.selects RX1 yX1_feedWeevils yX1_feedWeevils, Cond.code yX1_feedWeevils cX1_feedWeevils 1 none, Cond.fieldLink RX1 18 "LoafMarks$Store" "eaten" "I", Cond.fieldLink RX1 15 "LoafMarks$Store" "weevils" "I", Cond.methodLink RX1 27 yX1_giveOut, Cond.methodLink RX2 98 yX2_bakeAll, Cond.instanceMethod yX2_bakeAll, Cond.selects RX2 yX2_bakeAll yX2_bakeAll, Cond.code yX2_bakeAll cX2_bakeAll 5 none, Cond.methodLink RX2 139 yX0_bake, Cond.instanceMethod yX0_bake, Cond.selects RX0 yX0_bake yX0_bake, Cond.initialized RX0, Cond.code yX0_bake cX0_bake 2 none, Cond.fieldLink RX0 33 "LoafMarks$Baker" "barred" "Z", Cond.fieldLink RX0 18 "LoafMarks$Baker" "weight" "I", Cond.fieldLink RX0 24 "LoafMarks$Baker" "atHand" "I", Cond.methodLink RX0 37 Lib.Math.min.name, Cond.fieldLink RX0 27 "LoafMarks$Baker" "shelf" "I", Cond.methodLink RX2 101 yX2_sellAtNoon, Cond.instanceMethod yX2_sellAtNoon, Cond.selects RX2 yX2_sellAtNoon yX2_sellAtNoon]
def wsX3_pass_r5 : List Cond := [Cond.code yX2_sellAtNoon cX2_sellAtNoon 7 (some .int), Cond.fieldLink RX2 27 "LoafMarks$Town" "people" "I", Cond.fieldLink RX2 34 "LoafMarks$Town" "bought" "I", Cond.fieldLink RX2 37 "LoafMarks$Town" "light" "I", Cond.fieldLink RX2 40 "LoafMarks$Town" "hungry" "I", Cond.methodLink RX2 142 yX0_sell, Cond.instanceMethod yX0_sell, Cond.selects RX0 yX0_sell yX0_sell, Cond.code yX0_sell cX0_sell 3 (some .int), Cond.fieldLink RX0 30 "LoafMarks$Baker" "sold" "I", Cond.methodLink RX2 145 yX0_bakesLight, Cond.instanceMethod yX0_bakesLight, Cond.selects RX0 yX0_bakesLight yX0_bakesLight, Cond.code yX0_bakesLight cX0_bakesLight 1 (some .boolean)]
def wsX3_pass : List Cond := .code yX3_pass cX3_pass 2 (some .int) :: ((wsX3_pass_r1 ++ (wsX3_pass_r2 ++ (wsX3_pass_r3 ++ (wsX3_pass_r4 ++ wsX3_pass_r5)))) ++ wsX30 ++ wsX20 ++ wsX10 ++ wsX00 ++ (vx_atS RX3 27 "java/lang/IllegalArgumentException" ["java/lang/RuntimeException", "java/lang/Exception"]).filter goodWord)
def wsX3_lasts_r1 : List Cond := [Cond.fieldLink RX3 16 "LoafMarks" "trial" "LLoafMarks$Town;", Cond.fieldLink RX3 10 "LoafMarks" "town" "LLoafMarks$Town;", Cond.methodLink RX3 128 yX2_becomeLike, Cond.instanceMethod yX2_becomeLike, Cond.selects RX2 yX2_becomeLike yX2_becomeLike, Cond.initialized RX2, Cond.code yX2_becomeLike cX2_becomeLike 3 none, Cond.fieldLink RX2 31 "LoafMarks$Town" "hour" "I", Cond.fieldLink RX2 27 "LoafMarks$Town" "people" "I", Cond.fieldLink RX2 34 "LoafMarks$Town" "bought" "I", Cond.fieldLink RX2 37 "LoafMarks$Town" "light" "I", Cond.fieldLink RX2 40 "LoafMarks$Town" "hungry" "I", Cond.fieldLink RX2 43 "LoafMarks$Town" "lost" "I", Cond.fieldLink RX2 9 "LoafMarks$Town" "gate" "[I", Cond.methodLink RX2 46 yX2_gateAt, Cond.instanceMethod yX2_gateAt, Cond.selects RX2 yX2_gateAt yX2_gateAt, Cond.code yX2_gateAt cX2_gateAt 2 (some .int), Cond.methodLink RX2 50 yX2_copyStores, Cond.instanceMethod yX2_copyStores, Cond.selects RX2 yX2_copyStores yX2_copyStores, Cond.code yX2_copyStores cX2_copyStores 5 none, Cond.fieldLink RX2 17 "LoafMarks$Town" "stores" "[LLoafMarks$Store;", Cond.classLink RX2 15 RX1]
def wsX3_lasts_r2 : List Cond := [Cond.instantiable RX1 3, Cond.initialized RX1, Cond.methodLink RX2 57 yX2_storeAt, Cond.instanceMethod yX2_storeAt, Cond.selects RX2 yX2_storeAt yX2_storeAt, Cond.code yX2_storeAt cX2_storeAt 2 (some (.object "LoafMarks$Store")), Cond.methodLink RX2 61 yX1_init, Cond.instanceMethod yX1_init, Cond.code yX1_init cX1_init 3 none, Cond.methodLink RX1 3 objectInit, Cond.instanceMethod objectInit, Cond.code objectInit ⟨#[0xb1]⟩ 1 none, Cond.fieldLink RX1 9 "LoafMarks$Store" "flour" "I", Cond.fieldLink RX1 15 "LoafMarks$Store" "weevils" "I", Cond.methodLink RX2 64 yX1_becomeLike, Cond.instanceMethod yX1_becomeLike, Cond.selects RX1 yX1_becomeLike yX1_becomeLike, Cond.code yX1_becomeLike cX1_becomeLike 2 none, Cond.fieldLink RX1 18 "LoafMarks$Store" "eaten" "I", Cond.methodLink RX2 54 yX2_copyBakers, Cond.instanceMethod yX2_copyBakers, Cond.selects RX2 yX2_copyBakers yX2_copyBakers, Cond.code yX2_copyBakers cX2_copyBakers 5 none, Cond.fieldLink RX2 23 "LoafMarks$Town" "bakers" "[LLoafMarks$Baker;"]
def wsX3_lasts_r3 : List Cond := [Cond.classLink RX2 21 RX0, Cond.instantiable RX0 8, Cond.initialized RX0, Cond.methodLink RX2 68 yX2_bakerAt, Cond.instanceMethod yX2_bakerAt, Cond.selects RX2 yX2_bakerAt yX2_bakerAt, Cond.code yX2_bakerAt cX2_bakerAt 2 (some (.object "LoafMarks$Baker")), Cond.methodLink RX2 72 yX0_init, Cond.instanceMethod yX0_init, Cond.code yX0_init cX0_init 5 none, Cond.methodLink RX0 3 objectInit, Cond.fieldLink RX0 9 "LoafMarks$Baker" "storeNumber" "I", Cond.fieldLink RX0 15 "LoafMarks$Baker" "mark" "I", Cond.fieldLink RX0 18 "LoafMarks$Baker" "weight" "I", Cond.fieldLink RX0 21 "LoafMarks$Baker" "ration" "I", Cond.methodLink RX2 75 yX0_becomeLike, Cond.instanceMethod yX0_becomeLike, Cond.selects RX0 yX0_becomeLike yX0_becomeLike, Cond.code yX0_becomeLike cX0_becomeLike 2 none, Cond.fieldLink RX0 24 "LoafMarks$Baker" "atHand" "I", Cond.fieldLink RX0 27 "LoafMarks$Baker" "shelf" "I", Cond.fieldLink RX0 30 "LoafMarks$Baker" "sold" "I", Cond.fieldLink RX0 33 "LoafMarks$Baker" "barred" "Z", Cond.methodLink RX3 132 yX2_goThroughHour]
def wsX3_lasts_r4 : List Cond := [Cond.instanceMethod yX2_goThroughHour, Cond.selects RX2 yX2_goThroughHour yX2_goThroughHour, Cond.code yX2_goThroughHour cX2_goThroughHour 3 (some .int), Cond.methodLink RX2 85 yX2_hourOfDay, Cond.instanceMethod yX2_hourOfDay, Cond.selects RX2 yX2_hourOfDay yX2_hourOfDay, Cond.code yX2_hourOfDay cX2_hourOfDay 1 (some .int), Cond.methodLink RX2 104 yJ9_floorMod_7cf53, Cond.static yJ9_floorMod_7cf53, Cond.initialized RJ9, Cond.code yJ9_floorMod_7cf53 cJ9_floorMod_7cf53 3 (some .int), Cond.methodLink RX2 88 yX2_unloadCarts, Cond.instanceMethod yX2_unloadCarts, Cond.selects RX2 yX2_unloadCarts yX2_unloadCarts, Cond.code yX2_unloadCarts cX2_unloadCarts 3 none, Cond.methodLink RX2 110 yX2_emptiestStore, Cond.instanceMethod yX2_emptiestStore, Cond.selects RX2 yX2_emptiestStore yX2_emptiestStore, Cond.code yX2_emptiestStore cX2_emptiestStore 6 (some (.object "LoafMarks$Store")), Cond.fieldLink RX2 117 "LoafMarks$Store" "flour" "I", Cond.methodLink RX2 114 yX1_takeIn, Cond.instanceMethod yX1_takeIn, Cond.selects RX1 yX1_takeIn yX1_takeIn, Cond.code yX1_takeIn cX1_takeIn 3 (some .int)]
def wsX3_lasts_r5 : List Cond := [Cond.methodLink RX1 21 Lib.Math.min.name, Cond.static Lib.Math.min.name, Cond.initialized "java/lang/Math", Cond.code Lib.Math.min.name Lib.Math.min.code 2 (some .int), Cond.methodLink RX2 92 yX2_dealRations, Cond.instanceMethod yX2_dealRations, Cond.selects RX2 yX2_dealRations yX2_dealRations, Cond.code yX2_dealRations cX2_dealRations 6 none, Cond.fieldLink RX2 120 "LoafMarks$Baker" "barred" "Z", Cond.fieldLink RX2 124 "LoafMarks$Baker" "storeNumber" "I", Cond.fieldLink RX2 127 "LoafMarks$Baker" "atHand" "I", Cond.fieldLink RX2 130 "LoafMarks$Baker" "ration" "I", Cond.methodLink RX2 133 yX1_giveOut, Cond.instanceMethod yX1_giveOut, Cond.selects RX1 yX1_giveOut yX1_giveOut, Cond.code yX1_giveOut cX1_giveOut 3 (some .int), Cond.methodLink RX2 95 yX2_feedAllWeevils, Cond.instanceMethod yX2_feedAllWeevils, Cond.selects RX2 yX2_feedAllWeevils yX2_feedAllWeevils, Cond.code yX2_feedAllWeevils cX2_feedAllWeevils 5 none, Cond.methodLink RX2 136 yX1_feedWeevils, Cond.instanceMethod yX1_feedWeevils, Cond.selects RX1 yX1_feedWeevils yX1_feedWeevils, Cond.code yX1_feedWeevils cX1_feedWeevils 1 none]
def wsX3_lasts_r6 : List Cond := [Cond.methodLink RX1 27 yX1_giveOut, Cond.methodLink RX2 98 yX2_bakeAll, Cond.instanceMethod yX2_bakeAll, Cond.selects RX2 yX2_bakeAll yX2_bakeAll, Cond.code yX2_bakeAll cX2_bakeAll 5 none, Cond.methodLink RX2 139 yX0_bake, Cond.instanceMethod yX0_bake, Cond.selects RX0 yX0_bake yX0_bake, Cond.code yX0_bake cX0_bake 2 none, Cond.methodLink RX0 37 Lib.Math.min.name, Cond.methodLink RX2 101 yX2_sellAtNoon, Cond.instanceMethod yX2_sellAtNoon, Cond.selects RX2 yX2_sellAtNoon yX2_sellAtNoon, Cond.code yX2_sellAtNoon cX2_sellAtNoon 7 (some .int), Cond.methodLink RX2 142 yX0_sell, Cond.instanceMethod yX0_sell, Cond.selects RX0 yX0_sell yX0_sell, Cond.code yX0_sell cX0_sell 3 (some .int), Cond.methodLink RX2 145 yX0_bakesLight, Cond.instanceMethod yX0_bakesLight, Cond.selects RX0 yX0_bakesLight yX0_bakesLight, Cond.code yX0_bakesLight cX0_bakesLight 1 (some .boolean)]
def wsX3_lasts : List Cond := .code yX3_lasts cX3_lasts 2 (some .int) :: ((wsX3_lasts_r1 ++ (wsX3_lasts_r2 ++ (wsX3_lasts_r3 ++ (wsX3_lasts_r4 ++ (wsX3_lasts_r5 ++ wsX3_lasts_r6))))) ++ wsX30 ++ wsX20 ++ wsX10 ++ wsX00)
def wsX3_foresee_r1 : List Cond := [Cond.classLink RX3 23 "java/lang/IllegalArgumentException", Cond.initialized "java/lang/IllegalArgumentException", Cond.classLink RX3 34 "java/lang/IndexOutOfBoundsException", Cond.initialized "java/lang/IndexOutOfBoundsException", Cond.fieldLink RX3 16 "LoafMarks" "trial" "LLoafMarks$Town;", Cond.fieldLink RX3 10 "LoafMarks" "town" "LLoafMarks$Town;", Cond.methodLink RX3 19 yX3_isWithin, Cond.static yX3_isWithin, Cond.initialized RX3, Cond.code yX3_isWithin cX3_isWithin 3 (some .boolean), Cond.methodLink RX3 128 yX2_becomeLike, Cond.instanceMethod yX2_becomeLike, Cond.selects RX2 yX2_becomeLike yX2_becomeLike, Cond.initialized RX2, Cond.code yX2_becomeLike cX2_becomeLike 3 none, Cond.fieldLink RX2 31 "LoafMarks$Town" "hour" "I", Cond.fieldLink RX2 27 "LoafMarks$Town" "people" "I", Cond.fieldLink RX2 34 "LoafMarks$Town" "bought" "I", Cond.fieldLink RX2 37 "LoafMarks$Town" "light" "I", Cond.fieldLink RX2 40 "LoafMarks$Town" "hungry" "I", Cond.fieldLink RX2 43 "LoafMarks$Town" "lost" "I", Cond.fieldLink RX2 9 "LoafMarks$Town" "gate" "[I", Cond.methodLink RX2 46 yX2_gateAt, Cond.instanceMethod yX2_gateAt]
def wsX3_foresee_r2 : List Cond := [Cond.selects RX2 yX2_gateAt yX2_gateAt, Cond.code yX2_gateAt cX2_gateAt 2 (some .int), Cond.methodLink RX2 50 yX2_copyStores, Cond.instanceMethod yX2_copyStores, Cond.selects RX2 yX2_copyStores yX2_copyStores, Cond.code yX2_copyStores cX2_copyStores 5 none, Cond.fieldLink RX2 17 "LoafMarks$Town" "stores" "[LLoafMarks$Store;", Cond.classLink RX2 15 RX1, Cond.instantiable RX1 3, Cond.initialized RX1, Cond.methodLink RX2 57 yX2_storeAt, Cond.instanceMethod yX2_storeAt, Cond.selects RX2 yX2_storeAt yX2_storeAt, Cond.code yX2_storeAt cX2_storeAt 2 (some (.object "LoafMarks$Store")), Cond.methodLink RX2 61 yX1_init, Cond.instanceMethod yX1_init, Cond.code yX1_init cX1_init 3 none, Cond.methodLink RX1 3 objectInit, Cond.instanceMethod objectInit, Cond.code objectInit ⟨#[0xb1]⟩ 1 none, Cond.fieldLink RX1 9 "LoafMarks$Store" "flour" "I", Cond.fieldLink RX1 15 "LoafMarks$Store" "weevils" "I", Cond.methodLink RX2 64 yX1_becomeLike, Cond.instanceMethod yX1_becomeLike]
def wsX3_foresee_r3 : List Cond := [Cond.selects RX1 yX1_becomeLike yX1_becomeLike, Cond.code yX1_becomeLike cX1_becomeLike 2 none, Cond.fieldLink RX1 18 "LoafMarks$Store" "eaten" "I", Cond.methodLink RX2 54 yX2_copyBakers, Cond.instanceMethod yX2_copyBakers, Cond.selects RX2 yX2_copyBakers yX2_copyBakers, Cond.code yX2_copyBakers cX2_copyBakers 5 none, Cond.fieldLink RX2 23 "LoafMarks$Town" "bakers" "[LLoafMarks$Baker;", Cond.classLink RX2 21 RX0, Cond.instantiable RX0 8, Cond.initialized RX0, Cond.methodLink RX2 68 yX2_bakerAt, Cond.instanceMethod yX2_bakerAt, Cond.selects RX2 yX2_bakerAt yX2_bakerAt, Cond.code yX2_bakerAt cX2_bakerAt 2 (some (.object "LoafMarks$Baker")), Cond.methodLink RX2 72 yX0_init, Cond.instanceMethod yX0_init, Cond.code yX0_init cX0_init 5 none, Cond.methodLink RX0 3 objectInit, Cond.fieldLink RX0 9 "LoafMarks$Baker" "storeNumber" "I", Cond.fieldLink RX0 15 "LoafMarks$Baker" "mark" "I", Cond.fieldLink RX0 18 "LoafMarks$Baker" "weight" "I", Cond.fieldLink RX0 21 "LoafMarks$Baker" "ration" "I", Cond.methodLink RX2 75 yX0_becomeLike]
def wsX3_foresee_r4 : List Cond := [Cond.instanceMethod yX0_becomeLike, Cond.selects RX0 yX0_becomeLike yX0_becomeLike, Cond.code yX0_becomeLike cX0_becomeLike 2 none, Cond.fieldLink RX0 24 "LoafMarks$Baker" "atHand" "I", Cond.fieldLink RX0 27 "LoafMarks$Baker" "shelf" "I", Cond.fieldLink RX0 30 "LoafMarks$Baker" "sold" "I", Cond.fieldLink RX0 33 "LoafMarks$Baker" "barred" "Z", Cond.methodLink RX3 125 yX2_goThrough, Cond.instanceMethod yX2_goThrough, Cond.selects RX2 yX2_goThrough yX2_goThrough, Cond.code yX2_goThrough cX2_goThrough 4 (some .int), Cond.methodLink RX2 81 yX2_goThroughHour, Cond.instanceMethod yX2_goThroughHour, Cond.selects RX2 yX2_goThroughHour yX2_goThroughHour, Cond.code yX2_goThroughHour cX2_goThroughHour 3 (some .int), Cond.methodLink RX2 85 yX2_hourOfDay, Cond.instanceMethod yX2_hourOfDay, Cond.selects RX2 yX2_hourOfDay yX2_hourOfDay, Cond.code yX2_hourOfDay cX2_hourOfDay 1 (some .int), Cond.methodLink RX2 104 yJ9_floorMod_7cf53, Cond.static yJ9_floorMod_7cf53, Cond.initialized RJ9, Cond.code yJ9_floorMod_7cf53 cJ9_floorMod_7cf53 3 (some .int), Cond.methodLink RX2 88 yX2_unloadCarts]
def wsX3_foresee_r5 : List Cond := [Cond.instanceMethod yX2_unloadCarts, Cond.selects RX2 yX2_unloadCarts yX2_unloadCarts, Cond.code yX2_unloadCarts cX2_unloadCarts 3 none, Cond.methodLink RX2 110 yX2_emptiestStore, Cond.instanceMethod yX2_emptiestStore, Cond.selects RX2 yX2_emptiestStore yX2_emptiestStore, Cond.code yX2_emptiestStore cX2_emptiestStore 6 (some (.object "LoafMarks$Store")), Cond.fieldLink RX2 117 "LoafMarks$Store" "flour" "I", Cond.methodLink RX2 114 yX1_takeIn, Cond.instanceMethod yX1_takeIn, Cond.selects RX1 yX1_takeIn yX1_takeIn, Cond.code yX1_takeIn cX1_takeIn 3 (some .int), Cond.methodLink RX1 21 Lib.Math.min.name, Cond.static Lib.Math.min.name, Cond.initialized "java/lang/Math", Cond.code Lib.Math.min.name Lib.Math.min.code 2 (some .int), Cond.methodLink RX2 92 yX2_dealRations, Cond.instanceMethod yX2_dealRations, Cond.selects RX2 yX2_dealRations yX2_dealRations, Cond.code yX2_dealRations cX2_dealRations 6 none, Cond.fieldLink RX2 120 "LoafMarks$Baker" "barred" "Z", Cond.fieldLink RX2 124 "LoafMarks$Baker" "storeNumber" "I", Cond.fieldLink RX2 127 "LoafMarks$Baker" "atHand" "I", Cond.fieldLink RX2 130 "LoafMarks$Baker" "ration" "I"]
def wsX3_foresee_r6 : List Cond := [Cond.methodLink RX2 133 yX1_giveOut, Cond.instanceMethod yX1_giveOut, Cond.selects RX1 yX1_giveOut yX1_giveOut, Cond.code yX1_giveOut cX1_giveOut 3 (some .int), Cond.methodLink RX2 95 yX2_feedAllWeevils, Cond.instanceMethod yX2_feedAllWeevils, Cond.selects RX2 yX2_feedAllWeevils yX2_feedAllWeevils, Cond.code yX2_feedAllWeevils cX2_feedAllWeevils 5 none, Cond.methodLink RX2 136 yX1_feedWeevils, Cond.instanceMethod yX1_feedWeevils, Cond.selects RX1 yX1_feedWeevils yX1_feedWeevils, Cond.code yX1_feedWeevils cX1_feedWeevils 1 none, Cond.methodLink RX1 27 yX1_giveOut, Cond.methodLink RX2 98 yX2_bakeAll, Cond.instanceMethod yX2_bakeAll, Cond.selects RX2 yX2_bakeAll yX2_bakeAll, Cond.code yX2_bakeAll cX2_bakeAll 5 none, Cond.methodLink RX2 139 yX0_bake, Cond.instanceMethod yX0_bake, Cond.selects RX0 yX0_bake yX0_bake, Cond.code yX0_bake cX0_bake 2 none, Cond.methodLink RX0 37 Lib.Math.min.name, Cond.methodLink RX2 101 yX2_sellAtNoon, Cond.instanceMethod yX2_sellAtNoon]
def wsX3_foresee_r7 : List Cond := [Cond.selects RX2 yX2_sellAtNoon yX2_sellAtNoon, Cond.code yX2_sellAtNoon cX2_sellAtNoon 7 (some .int), Cond.methodLink RX2 142 yX0_sell, Cond.instanceMethod yX0_sell, Cond.selects RX0 yX0_sell yX0_sell, Cond.code yX0_sell cX0_sell 3 (some .int), Cond.methodLink RX2 145 yX0_bakesLight, Cond.instanceMethod yX0_bakesLight, Cond.selects RX0 yX0_bakesLight yX0_bakesLight, Cond.code yX0_bakesLight cX0_bakesLight 1 (some .boolean), Cond.methodLink RX3 135 yX2_flourOfAll, Cond.instanceMethod yX2_flourOfAll, Cond.selects RX2 yX2_flourOfAll yX2_flourOfAll, Cond.code yX2_flourOfAll cX2_flourOfAll 6 (some .int), Cond.methodLink RX3 138 yX2_loavesOfAll, Cond.instanceMethod yX2_loavesOfAll, Cond.selects RX2 yX2_loavesOfAll yX2_loavesOfAll, Cond.code yX2_loavesOfAll cX2_loavesOfAll 6 (some .int), Cond.fieldLink RX2 152 "LoafMarks$Baker" "shelf" "I", Cond.methodLink RX3 141 yX2_weevilsOfAll, Cond.instanceMethod yX2_weevilsOfAll, Cond.selects RX2 yX2_weevilsOfAll yX2_weevilsOfAll, Cond.code yX2_weevilsOfAll cX2_weevilsOfAll 6 (some .int), Cond.fieldLink RX2 149 "LoafMarks$Store" "weevils" "I"]
def wsX3_foresee : List Cond := .code yX3_foresee cX3_foresee 4 (some .int) :: ((wsX3_foresee_r1 ++ (wsX3_foresee_r2 ++ (wsX3_foresee_r3 ++ (wsX3_foresee_r4 ++ (wsX3_foresee_r5 ++ (wsX3_foresee_r6 ++ wsX3_foresee_r7)))))) ++ wsX30 ++ wsX20 ++ wsX10 ++ wsX00 ++ (vx_atS RX3 27 "java/lang/IllegalArgumentException" ["java/lang/RuntimeException", "java/lang/Exception"]).filter goodWord ++ (vx_atS RX3 38 "java/lang/IndexOutOfBoundsException" ["java/lang/RuntimeException", "java/lang/Exception"]).filter goodWord)
def wsX3_share : List Cond := .code yX3_share cX3_share 1 (some .double) :: ([.fieldLink RX3 10 "LoafMarks" "town" "LLoafMarks$Town;", .fieldLink RX3 150 "LoafMarks$Town" "bought" "I", .fieldLink RX3 153 "LoafMarks$Town" "light" "I"] ++ wsX30 ++ wsX20)
def wsX4_init : List Cond := .code yX4_init cX4_init 1 none :: ([.methodLink RX4 1 objectInit, .instanceMethod objectInit, .code objectInit ⟨#[0xb1]⟩ 1 none, .fieldLink RX4 7 "LoafMarksLaw$Sim" "people" "I", .arrayClass .int, .fieldLink RX4 13 "LoafMarksLaw$Sim" "gate" "[I", .classLink RX4 17 "[I", .fieldLink RX4 18 "LoafMarksLaw$Sim" "stores" "[[I", .fieldLink RX4 22 "LoafMarksLaw$Sim" "bakers" "[[I"] ++ wsX40)
def wsX4_more : List Cond := .code yX4_more cX4_more 4 (some (.array (.array .int))) :: ([.classLink RX4 17 "[I"])
def wsX4_owner : List Cond := .code yX4_owner cX4_owner 3 (some .int) :: ([.fieldLink RX4 22 "LoafMarksLaw$Sim" "bakers" "[[I"] ++ wsX40)
def wsX4_pass : List Cond := .code yX4_pass cX4_pass 9 (some .int) :: ([.fieldLink RX4 30 "LoafMarksLaw$Sim" "hour" "I", .fieldLink RX4 18 "LoafMarksLaw$Sim" "stores" "[[I", .fieldLink RX4 13 "LoafMarksLaw$Sim" "gate" "[I", .fieldLink RX4 33 "LoafMarksLaw$Sim" "lost" "I", .fieldLink RX4 22 "LoafMarksLaw$Sim" "bakers" "[[I", .fieldLink RX4 7 "LoafMarksLaw$Sim" "people" "I", .fieldLink RX4 36 "LoafMarksLaw$Sim" "all" "I", .fieldLink RX4 39 "LoafMarksLaw$Sim" "light" "I", .fieldLink RX4 42 "LoafMarksLaw$Sim" "hungry" "I"] ++ wsX40)
def wsX4_stored : List Cond := .code yX4_stored cX4_stored 7 (some .int) :: ([.fieldLink RX4 18 "LoafMarksLaw$Sim" "stores" "[[I"] ++ wsX40)
def wsX4_baked : List Cond := .code yX4_baked cX4_baked 7 (some .int) :: ([.fieldLink RX4 22 "LoafMarksLaw$Sim" "bakers" "[[I"] ++ wsX40)
def wsX4_isSame_r1 : List Cond := [Cond.fieldLink RX4 18 "LoafMarksLaw$Sim" "stores" "[[I", Cond.fieldLink RX4 22 "LoafMarksLaw$Sim" "bakers" "[[I", Cond.arrayClass .int, Cond.fieldLink RX4 30 "LoafMarksLaw$Sim" "hour" "I", Cond.fieldLink RX4 7 "LoafMarksLaw$Sim" "people" "I", Cond.fieldLink RX4 36 "LoafMarksLaw$Sim" "all" "I", Cond.fieldLink RX4 39 "LoafMarksLaw$Sim" "light" "I", Cond.fieldLink RX4 42 "LoafMarksLaw$Sim" "hungry" "I", Cond.fieldLink RX4 33 "LoafMarksLaw$Sim" "lost" "I", Cond.methodLink RX4 45 yX3_store, Cond.instanceMethod yX3_store, Cond.selects RX3 yX3_store yX3_store, Cond.initialized RX3, Cond.code yX3_store cX3_store 3 (some .int), Cond.classLink RX3 34 "java/lang/IndexOutOfBoundsException", Cond.initialized "java/lang/IndexOutOfBoundsException", Cond.fieldLink RX3 10 "LoafMarks" "town" "LLoafMarks$Town;", Cond.methodLink RX3 57 yX2_storeAt, Cond.instanceMethod yX2_storeAt, Cond.selects RX2 yX2_storeAt yX2_storeAt, Cond.initialized RX2, Cond.code yX2_storeAt cX2_storeAt 2 (some (.object "LoafMarks$Store")), Cond.fieldLink RX2 17 "LoafMarks$Town" "stores" "[LLoafMarks$Store;", Cond.methodLink RX3 19 yX3_isWithin]
def wsX4_isSame_r2 : List Cond := [Cond.static yX3_isWithin, Cond.code yX3_isWithin cX3_isWithin 3 (some .boolean), Cond.methodLink RX3 112 yX2_storeFact, Cond.instanceMethod yX2_storeFact, Cond.selects RX2 yX2_storeFact yX2_storeFact, Cond.code yX2_storeFact cX2_storeFact 4 (some .int), Cond.fieldLink RX2 117 "LoafMarks$Store" "flour" "I", Cond.fieldLink RX2 149 "LoafMarks$Store" "weevils" "I", Cond.fieldLink RX2 158 "LoafMarks$Store" "eaten" "I", Cond.methodLink RX2 57 yX2_storeAt, Cond.methodLink RX2 155 yX2_bakersOfStore, Cond.instanceMethod yX2_bakersOfStore, Cond.selects RX2 yX2_bakersOfStore yX2_bakersOfStore, Cond.code yX2_bakersOfStore cX2_bakersOfStore 7 (some .int), Cond.fieldLink RX2 23 "LoafMarks$Town" "bakers" "[LLoafMarks$Baker;", Cond.fieldLink RX2 124 "LoafMarks$Baker" "storeNumber" "I", Cond.methodLink RX4 51 yX3_baker, Cond.instanceMethod yX3_baker, Cond.selects RX3 yX3_baker yX3_baker, Cond.code yX3_baker cX3_baker 4 (some .int), Cond.methodLink RX3 87 yX2_bakerAt, Cond.instanceMethod yX2_bakerAt, Cond.selects RX2 yX2_bakerAt yX2_bakerAt, Cond.code yX2_bakerAt cX2_bakerAt 2 (some (.object "LoafMarks$Baker"))]
def wsX4_isSame_r3 : List Cond := [Cond.methodLink RX3 117 yX0_fact, Cond.instanceMethod yX0_fact, Cond.selects RX0 yX0_fact yX0_fact, Cond.initialized RX0, Cond.code yX0_fact cX0_fact 2 (some .int), Cond.fieldLink RX0 9 "LoafMarks$Baker" "storeNumber" "I", Cond.fieldLink RX0 15 "LoafMarks$Baker" "mark" "I", Cond.fieldLink RX0 21 "LoafMarks$Baker" "ration" "I", Cond.fieldLink RX0 24 "LoafMarks$Baker" "atHand" "I", Cond.fieldLink RX0 18 "LoafMarks$Baker" "weight" "I", Cond.fieldLink RX0 27 "LoafMarks$Baker" "shelf" "I", Cond.fieldLink RX0 30 "LoafMarks$Baker" "sold" "I", Cond.fieldLink RX0 33 "LoafMarks$Baker" "barred" "Z", Cond.methodLink RX4 54 yX4_stored, Cond.instanceMethod yX4_stored, Cond.selects RX4 yX4_stored yX4_stored, Cond.initialized RX4, Cond.code yX4_stored cX4_stored 7 (some .int), Cond.methodLink RX4 58 yX4_baked, Cond.instanceMethod yX4_baked, Cond.selects RX4 yX4_baked yX4_baked, Cond.code yX4_baked cX4_baked 7 (some .int), Cond.methodLink RX4 61 yX3_count, Cond.instanceMethod yX3_count]
def wsX4_isSame_r4 : List Cond := [Cond.selects RX3 yX3_count yX3_count, Cond.code yX3_count cX3_count 2 (some .int), Cond.methodLink RX3 122 yX2_fact, Cond.instanceMethod yX2_fact, Cond.selects RX2 yX2_fact yX2_fact, Cond.code yX2_fact cX2_fact 2 (some .int), Cond.fieldLink RX2 31 "LoafMarks$Town" "hour" "I", Cond.fieldLink RX2 27 "LoafMarks$Town" "people" "I", Cond.fieldLink RX2 34 "LoafMarks$Town" "bought" "I", Cond.fieldLink RX2 37 "LoafMarks$Town" "light" "I", Cond.fieldLink RX2 40 "LoafMarks$Town" "hungry" "I", Cond.fieldLink RX2 43 "LoafMarks$Town" "lost" "I", Cond.methodLink RX2 85 yX2_hourOfDay, Cond.instanceMethod yX2_hourOfDay, Cond.selects RX2 yX2_hourOfDay yX2_hourOfDay, Cond.code yX2_hourOfDay cX2_hourOfDay 1 (some .int), Cond.methodLink RX2 104 yJ9_floorMod_7cf53, Cond.static yJ9_floorMod_7cf53, Cond.initialized RJ9, Cond.code yJ9_floorMod_7cf53 cJ9_floorMod_7cf53 3 (some .int), Cond.methodLink RX2 161 yX2_flourOfAll, Cond.instanceMethod yX2_flourOfAll, Cond.selects RX2 yX2_flourOfAll yX2_flourOfAll, Cond.code yX2_flourOfAll cX2_flourOfAll 6 (some .int)]
def wsX4_isSame_r5 : List Cond := [Cond.methodLink RX2 164 yX2_loavesOfAll, Cond.instanceMethod yX2_loavesOfAll, Cond.selects RX2 yX2_loavesOfAll yX2_loavesOfAll, Cond.code yX2_loavesOfAll cX2_loavesOfAll 6 (some .int), Cond.fieldLink RX2 152 "LoafMarks$Baker" "shelf" "I", Cond.methodLink RX2 167 yX2_barredBakers, Cond.instanceMethod yX2_barredBakers, Cond.selects RX2 yX2_barredBakers yX2_barredBakers, Cond.code yX2_barredBakers cX2_barredBakers 6 (some .int), Cond.fieldLink RX2 120 "LoafMarks$Baker" "barred" "Z", Cond.methodLink RX4 64 yX3_share, Cond.instanceMethod yX3_share, Cond.selects RX3 yX3_share yX3_share, Cond.code yX3_share cX3_share 1 (some .double), Cond.fieldLink RX3 150 "LoafMarks$Town" "bought" "I", Cond.fieldLink RX3 153 "LoafMarks$Town" "light" "I"]
def wsX4_isSame : List Cond := .code yX4_isSame cX4_isSame 8 (some .boolean) :: ((wsX4_isSame_r1 ++ (wsX4_isSame_r2 ++ (wsX4_isSame_r3 ++ (wsX4_isSame_r4 ++ wsX4_isSame_r5)))) ++ wsX40 ++ wsX30 ++ wsX20 ++ wsX10 ++ wsX00 ++ (vx_atS RX3 38 "java/lang/IndexOutOfBoundsException" ["java/lang/RuntimeException", "java/lang/Exception"]).filter goodWord)
def wsJ9_max_7cf53 : List Cond := .code yJ9_max_7cf53 cJ9_max_7cf53 2 (some .int) :: ([])
def wsJ9_min_7cf53 : List Cond := .code yJ9_min_7cf53 cJ9_min_7cf53 2 (some .int) :: ([])
def wsL_below : List Cond := .code yL_below cL_below 2 (some .int) :: ([.constant RL 7 (2147483647)])
def wsL_cell : List Cond := .code yL_cell cL_cell 2 (some .int) :: ([.constant RL 8 (790386105)])
def wsL_act_r1 : List Cond := [Cond.fieldLink RL 9 "LoafMarksLaw$Sim" "stores" "[[I", Cond.fieldLink RL 15 "LoafMarksLaw$Sim" "bakers" "[[I", Cond.arrayClass .int, Cond.fieldLink RL 41 "LoafMarksLaw$Sim" "people" "I", Cond.fieldLink RL 48 "LoafMarksLaw$Sim" "gate" "[I", Cond.methodLink RL 18 yL_below, Cond.static yL_below, Cond.initialized RL, Cond.code yL_below cL_below 2 (some .int), Cond.constant RL 7 (2147483647), Cond.methodLink RL 24 yX4_more, Cond.static yX4_more, Cond.initialized RX4, Cond.code yX4_more cX4_more 4 (some (.array (.array .int))), Cond.classLink RX4 17 "[I", Cond.methodLink RL 28 yX3_open, Cond.instanceMethod yX3_open, Cond.selects RX3 yX3_open yX3_open, Cond.initialized RX3, Cond.code yX3_open cX3_open 4 (some .int), Cond.classLink RX3 23 "java/lang/IllegalArgumentException", Cond.initialized "java/lang/IllegalArgumentException", Cond.classLink RX3 52 "java/lang/IllegalStateException", Cond.initialized "java/lang/IllegalStateException"]
def wsL_act_r2 : List Cond := [Cond.fieldLink RX3 10 "LoafMarks" "town" "LLoafMarks$Town;", Cond.methodLink RX3 19 yX3_isWithin, Cond.static yX3_isWithin, Cond.code yX3_isWithin cX3_isWithin 3 (some .boolean), Cond.methodLink RX3 49 yX2_addStore, Cond.instanceMethod yX2_addStore, Cond.selects RX2 yX2_addStore yX2_addStore, Cond.initialized RX2, Cond.code yX2_addStore cX2_addStore 4 (some .int), Cond.fieldLink RX2 17 "LoafMarks$Town" "stores" "[LLoafMarks$Store;", Cond.classLink RX2 15 RX1, Cond.instantiable RX1 3, Cond.initialized RX1, Cond.methodLink RX2 61 yX1_init, Cond.instanceMethod yX1_init, Cond.code yX1_init cX1_init 3 none, Cond.methodLink RX1 3 objectInit, Cond.instanceMethod objectInit, Cond.code objectInit ⟨#[0xb1]⟩ 1 none, Cond.fieldLink RX1 9 "LoafMarks$Store" "flour" "I", Cond.fieldLink RX1 15 "LoafMarks$Store" "weevils" "I", Cond.methodLink RL 33 yX4_owner, Cond.instanceMethod yX4_owner, Cond.selects RX4 yX4_owner yX4_owner]
def wsL_act_r3 : List Cond := [Cond.code yX4_owner cX4_owner 3 (some .int), Cond.fieldLink RX4 22 "LoafMarksLaw$Sim" "bakers" "[[I", Cond.methodLink RL 37 yX3_swear, Cond.instanceMethod yX3_swear, Cond.selects RX3 yX3_swear yX3_swear, Cond.code yX3_swear cX3_swear 6 (some .int), Cond.classLink RX3 34 "java/lang/IndexOutOfBoundsException", Cond.initialized "java/lang/IndexOutOfBoundsException", Cond.methodLink RX3 57 yX2_storeAt, Cond.instanceMethod yX2_storeAt, Cond.selects RX2 yX2_storeAt yX2_storeAt, Cond.code yX2_storeAt cX2_storeAt 2 (some (.object "LoafMarks$Store")), Cond.methodLink RX3 75 yX2_bakerWithMark, Cond.instanceMethod yX2_bakerWithMark, Cond.selects RX2 yX2_bakerWithMark yX2_bakerWithMark, Cond.code yX2_bakerWithMark cX2_bakerWithMark 4 (some .int), Cond.fieldLink RX2 23 "LoafMarks$Town" "bakers" "[LLoafMarks$Baker;", Cond.fieldLink RX2 78 "LoafMarks$Baker" "mark" "I", Cond.methodLink RX3 81 yX2_addBaker, Cond.instanceMethod yX2_addBaker, Cond.selects RX2 yX2_addBaker yX2_addBaker, Cond.code yX2_addBaker cX2_addBaker 6 (some .int), Cond.classLink RX2 21 RX0, Cond.instantiable RX0 8]
def wsL_act_r4 : List Cond := [Cond.initialized RX0, Cond.methodLink RX2 72 yX0_init, Cond.instanceMethod yX0_init, Cond.code yX0_init cX0_init 5 none, Cond.methodLink RX0 3 objectInit, Cond.fieldLink RX0 9 "LoafMarks$Baker" "storeNumber" "I", Cond.fieldLink RX0 15 "LoafMarks$Baker" "mark" "I", Cond.fieldLink RX0 18 "LoafMarks$Baker" "weight" "I", Cond.fieldLink RX0 21 "LoafMarks$Baker" "ration" "I", Cond.methodLink RL 45 yX3_setPeople, Cond.instanceMethod yX3_setPeople, Cond.selects RX3 yX3_setPeople yX3_setPeople, Cond.code yX3_setPeople cX3_setPeople 3 (some .int), Cond.fieldLink RX3 30 "LoafMarks$Town" "people" "I", Cond.methodLink RL 52 yX3_setGate, Cond.instanceMethod yX3_setGate, Cond.selects RX3 yX3_setGate yX3_setGate, Cond.code yX3_setGate cX3_setGate 3 (some .int), Cond.methodLink RX3 41 yX2_changeGate, Cond.instanceMethod yX2_changeGate, Cond.selects RX2 yX2_changeGate yX2_changeGate, Cond.code yX2_changeGate cX2_changeGate 4 (some .int), Cond.fieldLink RX2 9 "LoafMarks$Town" "gate" "[I", Cond.methodLink RX2 46 yX2_gateAt]
def wsL_act_r5 : List Cond := [Cond.instanceMethod yX2_gateAt, Cond.selects RX2 yX2_gateAt yX2_gateAt, Cond.code yX2_gateAt cX2_gateAt 2 (some .int), Cond.methodLink RL 55 yX3_smoke, Cond.instanceMethod yX3_smoke, Cond.selects RX3 yX3_smoke yX3_smoke, Cond.code yX3_smoke cX3_smoke 3 (some .int), Cond.methodLink RX3 63 yX1_smokeOut, Cond.instanceMethod yX1_smokeOut, Cond.selects RX1 yX1_smokeOut yX1_smokeOut, Cond.code yX1_smokeOut cX1_smokeOut 2 (some .int), Cond.methodLink RL 58 yX3_deal, Cond.instanceMethod yX3_deal, Cond.selects RX3 yX3_deal yX3_deal, Cond.code yX3_deal cX3_deal 5 (some .int), Cond.fieldLink RX3 93 "LoafMarks$Baker" "ration" "I", Cond.methodLink RX3 87 yX2_bakerAt, Cond.instanceMethod yX2_bakerAt, Cond.selects RX2 yX2_bakerAt yX2_bakerAt, Cond.code yX2_bakerAt cX2_bakerAt 2 (some (.object "LoafMarks$Baker")), Cond.methodLink RL 61 yX3_weigh, Cond.instanceMethod yX3_weigh, Cond.selects RX3 yX3_weigh yX3_weigh, Cond.code yX3_weigh cX3_weigh 3 (some .int)]
def wsL_act_r6 : List Cond := [Cond.fieldLink RX3 98 "LoafMarks$Baker" "shelf" "I", Cond.methodLink RX3 103 yX0_inspect, Cond.instanceMethod yX0_inspect, Cond.selects RX0 yX0_inspect yX0_inspect, Cond.code yX0_inspect cX0_inspect 1 (some .int), Cond.fieldLink RX0 27 "LoafMarks$Baker" "shelf" "I", Cond.fieldLink RX0 33 "LoafMarks$Baker" "barred" "Z", Cond.methodLink RX0 43 yX0_bakesLight, Cond.instanceMethod yX0_bakesLight, Cond.selects RX0 yX0_bakesLight yX0_bakesLight, Cond.code yX0_bakesLight cX0_bakesLight 1 (some .boolean), Cond.methodLink RL 64 yX3_pardon, Cond.instanceMethod yX3_pardon, Cond.selects RX3 yX3_pardon yX3_pardon, Cond.code yX3_pardon cX3_pardon 3 (some .boolean), Cond.methodLink RX3 106 yX0_forgive, Cond.instanceMethod yX0_forgive, Cond.selects RX0 yX0_forgive yX0_forgive, Cond.code yX0_forgive cX0_forgive 2 (some .boolean), Cond.methodLink RX0 47 Lib.Math.max.name, Cond.static Lib.Math.max.name, Cond.initialized "java/lang/Math", Cond.code Lib.Math.max.name Lib.Math.max.code 2 (some .int)]
def wsL_act : List Cond := .code yL_act cL_act 21 (some .boolean) :: ((wsL_act_r1 ++ (wsL_act_r2 ++ (wsL_act_r3 ++ (wsL_act_r4 ++ (wsL_act_r5 ++ wsL_act_r6))))) ++ wsX40 ++ wsX30 ++ wsX20 ++ wsX10 ++ wsX00 ++ (vx_atS RX3 27 "java/lang/IllegalArgumentException" ["java/lang/RuntimeException", "java/lang/Exception"]).filter goodWord ++ (vx_atS RX3 56 "java/lang/IllegalStateException" ["java/lang/RuntimeException", "java/lang/Exception"]).filter goodWord ++ (vx_atS RX3 38 "java/lang/IndexOutOfBoundsException" ["java/lang/RuntimeException", "java/lang/Exception"]).filter goodWord)
def wsL_build_r1 : List Cond := [Cond.classLink RL 10 RX4, Cond.instantiable RX4 9, Cond.initialized RX4, Cond.instanceMethod yX4_init, Cond.code yX4_init cX4_init 1 none, Cond.methodLink RX4 1 objectInit, Cond.instanceMethod objectInit, Cond.code objectInit ⟨#[0xb1]⟩ 1 none, Cond.fieldLink RX4 7 "LoafMarksLaw$Sim" "people" "I", Cond.arrayClass .int, Cond.fieldLink RX4 13 "LoafMarksLaw$Sim" "gate" "[I", Cond.classLink RX4 17 "[I", Cond.fieldLink RX4 18 "LoafMarksLaw$Sim" "stores" "[[I", Cond.fieldLink RX4 22 "LoafMarksLaw$Sim" "bakers" "[[I", Cond.methodLink RL 69 yL_cell, Cond.static yL_cell, Cond.initialized RL, Cond.code yL_cell cL_cell 2 (some .int), Cond.constant RL 8 (790386105), Cond.methodLink RL 73 yL_act, Cond.static yL_act, Cond.code yL_act cL_act 21 (some .boolean), Cond.fieldLink RL 9 "LoafMarksLaw$Sim" "stores" "[[I", Cond.fieldLink RL 15 "LoafMarksLaw$Sim" "bakers" "[[I"]
def wsL_build_r2 : List Cond := [Cond.fieldLink RL 41 "LoafMarksLaw$Sim" "people" "I", Cond.fieldLink RL 48 "LoafMarksLaw$Sim" "gate" "[I", Cond.methodLink RL 18 yL_below, Cond.static yL_below, Cond.code yL_below cL_below 2 (some .int), Cond.constant RL 7 (2147483647), Cond.methodLink RL 24 yX4_more, Cond.static yX4_more, Cond.code yX4_more cX4_more 4 (some (.array (.array .int))), Cond.methodLink RL 28 yX3_open, Cond.instanceMethod yX3_open, Cond.selects RX3 yX3_open yX3_open, Cond.initialized RX3, Cond.code yX3_open cX3_open 4 (some .int), Cond.classLink RX3 23 "java/lang/IllegalArgumentException", Cond.initialized "java/lang/IllegalArgumentException", Cond.classLink RX3 52 "java/lang/IllegalStateException", Cond.initialized "java/lang/IllegalStateException", Cond.fieldLink RX3 10 "LoafMarks" "town" "LLoafMarks$Town;", Cond.methodLink RX3 19 yX3_isWithin, Cond.static yX3_isWithin, Cond.code yX3_isWithin cX3_isWithin 3 (some .boolean), Cond.methodLink RX3 49 yX2_addStore, Cond.instanceMethod yX2_addStore]
def wsL_build_r3 : List Cond := [Cond.selects RX2 yX2_addStore yX2_addStore, Cond.initialized RX2, Cond.code yX2_addStore cX2_addStore 4 (some .int), Cond.fieldLink RX2 17 "LoafMarks$Town" "stores" "[LLoafMarks$Store;", Cond.classLink RX2 15 RX1, Cond.instantiable RX1 3, Cond.initialized RX1, Cond.methodLink RX2 61 yX1_init, Cond.instanceMethod yX1_init, Cond.code yX1_init cX1_init 3 none, Cond.methodLink RX1 3 objectInit, Cond.fieldLink RX1 9 "LoafMarks$Store" "flour" "I", Cond.fieldLink RX1 15 "LoafMarks$Store" "weevils" "I", Cond.methodLink RL 33 yX4_owner, Cond.instanceMethod yX4_owner, Cond.selects RX4 yX4_owner yX4_owner, Cond.code yX4_owner cX4_owner 3 (some .int), Cond.methodLink RL 37 yX3_swear, Cond.instanceMethod yX3_swear, Cond.selects RX3 yX3_swear yX3_swear, Cond.code yX3_swear cX3_swear 6 (some .int), Cond.classLink RX3 34 "java/lang/IndexOutOfBoundsException", Cond.initialized "java/lang/IndexOutOfBoundsException", Cond.methodLink RX3 57 yX2_storeAt]
def wsL_build_r4 : List Cond := [Cond.instanceMethod yX2_storeAt, Cond.selects RX2 yX2_storeAt yX2_storeAt, Cond.code yX2_storeAt cX2_storeAt 2 (some (.object "LoafMarks$Store")), Cond.methodLink RX3 75 yX2_bakerWithMark, Cond.instanceMethod yX2_bakerWithMark, Cond.selects RX2 yX2_bakerWithMark yX2_bakerWithMark, Cond.code yX2_bakerWithMark cX2_bakerWithMark 4 (some .int), Cond.fieldLink RX2 23 "LoafMarks$Town" "bakers" "[LLoafMarks$Baker;", Cond.fieldLink RX2 78 "LoafMarks$Baker" "mark" "I", Cond.methodLink RX3 81 yX2_addBaker, Cond.instanceMethod yX2_addBaker, Cond.selects RX2 yX2_addBaker yX2_addBaker, Cond.code yX2_addBaker cX2_addBaker 6 (some .int), Cond.classLink RX2 21 RX0, Cond.instantiable RX0 8, Cond.initialized RX0, Cond.methodLink RX2 72 yX0_init, Cond.instanceMethod yX0_init, Cond.code yX0_init cX0_init 5 none, Cond.methodLink RX0 3 objectInit, Cond.fieldLink RX0 9 "LoafMarks$Baker" "storeNumber" "I", Cond.fieldLink RX0 15 "LoafMarks$Baker" "mark" "I", Cond.fieldLink RX0 18 "LoafMarks$Baker" "weight" "I", Cond.fieldLink RX0 21 "LoafMarks$Baker" "ration" "I"]
def wsL_build_r5 : List Cond := [Cond.methodLink RL 45 yX3_setPeople, Cond.instanceMethod yX3_setPeople, Cond.selects RX3 yX3_setPeople yX3_setPeople, Cond.code yX3_setPeople cX3_setPeople 3 (some .int), Cond.fieldLink RX3 30 "LoafMarks$Town" "people" "I", Cond.methodLink RL 52 yX3_setGate, Cond.instanceMethod yX3_setGate, Cond.selects RX3 yX3_setGate yX3_setGate, Cond.code yX3_setGate cX3_setGate 3 (some .int), Cond.methodLink RX3 41 yX2_changeGate, Cond.instanceMethod yX2_changeGate, Cond.selects RX2 yX2_changeGate yX2_changeGate, Cond.code yX2_changeGate cX2_changeGate 4 (some .int), Cond.fieldLink RX2 9 "LoafMarks$Town" "gate" "[I", Cond.methodLink RX2 46 yX2_gateAt, Cond.instanceMethod yX2_gateAt, Cond.selects RX2 yX2_gateAt yX2_gateAt, Cond.code yX2_gateAt cX2_gateAt 2 (some .int), Cond.methodLink RL 55 yX3_smoke, Cond.instanceMethod yX3_smoke, Cond.selects RX3 yX3_smoke yX3_smoke, Cond.code yX3_smoke cX3_smoke 3 (some .int), Cond.methodLink RX3 63 yX1_smokeOut, Cond.instanceMethod yX1_smokeOut]
def wsL_build_r6 : List Cond := [Cond.selects RX1 yX1_smokeOut yX1_smokeOut, Cond.code yX1_smokeOut cX1_smokeOut 2 (some .int), Cond.methodLink RL 58 yX3_deal, Cond.instanceMethod yX3_deal, Cond.selects RX3 yX3_deal yX3_deal, Cond.code yX3_deal cX3_deal 5 (some .int), Cond.fieldLink RX3 93 "LoafMarks$Baker" "ration" "I", Cond.methodLink RX3 87 yX2_bakerAt, Cond.instanceMethod yX2_bakerAt, Cond.selects RX2 yX2_bakerAt yX2_bakerAt, Cond.code yX2_bakerAt cX2_bakerAt 2 (some (.object "LoafMarks$Baker")), Cond.methodLink RL 61 yX3_weigh, Cond.instanceMethod yX3_weigh, Cond.selects RX3 yX3_weigh yX3_weigh, Cond.code yX3_weigh cX3_weigh 3 (some .int), Cond.fieldLink RX3 98 "LoafMarks$Baker" "shelf" "I", Cond.methodLink RX3 103 yX0_inspect, Cond.instanceMethod yX0_inspect, Cond.selects RX0 yX0_inspect yX0_inspect, Cond.code yX0_inspect cX0_inspect 1 (some .int), Cond.fieldLink RX0 27 "LoafMarks$Baker" "shelf" "I", Cond.fieldLink RX0 33 "LoafMarks$Baker" "barred" "Z", Cond.methodLink RX0 43 yX0_bakesLight, Cond.instanceMethod yX0_bakesLight]
def wsL_build_r7 : List Cond := [Cond.selects RX0 yX0_bakesLight yX0_bakesLight, Cond.code yX0_bakesLight cX0_bakesLight 1 (some .boolean), Cond.methodLink RL 64 yX3_pardon, Cond.instanceMethod yX3_pardon, Cond.selects RX3 yX3_pardon yX3_pardon, Cond.code yX3_pardon cX3_pardon 3 (some .boolean), Cond.methodLink RX3 106 yX0_forgive, Cond.instanceMethod yX0_forgive, Cond.selects RX0 yX0_forgive yX0_forgive, Cond.code yX0_forgive cX0_forgive 2 (some .boolean), Cond.methodLink RX0 47 Lib.Math.max.name, Cond.static Lib.Math.max.name, Cond.initialized "java/lang/Math", Cond.code Lib.Math.max.name Lib.Math.max.code 2 (some .int)]
def wsL_build : List Cond := .code yL_build cL_build 4 (some (.object "LoafMarksLaw$Sim")) :: ((wsL_build_r1 ++ (wsL_build_r2 ++ (wsL_build_r3 ++ (wsL_build_r4 ++ (wsL_build_r5 ++ (wsL_build_r6 ++ wsL_build_r7)))))) ++ wsX40 ++ wsX30 ++ wsX20 ++ wsX10 ++ wsX00 ++ (vx_atS RX3 27 "java/lang/IllegalArgumentException" ["java/lang/RuntimeException", "java/lang/Exception"]).filter goodWord ++ (vx_atS RX3 56 "java/lang/IllegalStateException" ["java/lang/RuntimeException", "java/lang/Exception"]).filter goodWord ++ (vx_atS RX3 38 "java/lang/IndexOutOfBoundsException" ["java/lang/RuntimeException", "java/lang/Exception"]).filter goodWord)
def wsL_law0_r1 : List Cond := [Cond.classLink RL 29 RX3, Cond.instantiable RX3 2, Cond.initialized RX3, Cond.fieldLink RL 9 "LoafMarksLaw$Sim" "stores" "[[I", Cond.fieldLink RL 15 "LoafMarksLaw$Sim" "bakers" "[[I", Cond.classLink RL 94 "[[I", Cond.arrayClass .int, Cond.fieldLink RL 48 "LoafMarksLaw$Sim" "gate" "[I", Cond.methodLink RL 77 yX3_init, Cond.instanceMethod yX3_init, Cond.code yX3_init cX3_init 1 none, Cond.methodLink RX3 1 objectInit, Cond.instanceMethod objectInit, Cond.code objectInit ⟨#[0xb1]⟩ 1 none, Cond.classLink RX3 7 RX2, Cond.instantiable RX2 9, Cond.initialized RX2, Cond.fieldLink RX3 10 "LoafMarks" "town" "LLoafMarks$Town;", Cond.fieldLink RX3 16 "LoafMarks" "trial" "LLoafMarks$Town;", Cond.instanceMethod yX2_init, Cond.code yX2_init cX2_init 1 none, Cond.methodLink RX2 3 objectInit, Cond.fieldLink RX2 9 "LoafMarks$Town" "gate" "[I", Cond.classLink RX2 15 RX1]
def wsL_law0_r2 : List Cond := [Cond.fieldLink RX2 17 "LoafMarks$Town" "stores" "[LLoafMarks$Store;", Cond.classLink RX2 21 RX0, Cond.fieldLink RX2 23 "LoafMarks$Town" "bakers" "[LLoafMarks$Baker;", Cond.fieldLink RX2 27 "LoafMarks$Town" "people" "I", Cond.methodLink RL 78 yL_build, Cond.static yL_build, Cond.initialized RL, Cond.code yL_build cL_build 4 (some (.object "LoafMarksLaw$Sim")), Cond.classLink RL 10 RX4, Cond.instantiable RX4 9, Cond.initialized RX4, Cond.instanceMethod yX4_init, Cond.code yX4_init cX4_init 1 none, Cond.methodLink RX4 1 objectInit, Cond.fieldLink RX4 7 "LoafMarksLaw$Sim" "people" "I", Cond.fieldLink RX4 13 "LoafMarksLaw$Sim" "gate" "[I", Cond.classLink RX4 17 "[I", Cond.fieldLink RX4 18 "LoafMarksLaw$Sim" "stores" "[[I", Cond.fieldLink RX4 22 "LoafMarksLaw$Sim" "bakers" "[[I", Cond.methodLink RL 69 yL_cell, Cond.static yL_cell, Cond.code yL_cell cL_cell 2 (some .int), Cond.constant RL 8 (790386105), Cond.methodLink RL 73 yL_act]
def wsL_law0_r3 : List Cond := [Cond.static yL_act, Cond.code yL_act cL_act 21 (some .boolean), Cond.fieldLink RL 41 "LoafMarksLaw$Sim" "people" "I", Cond.methodLink RL 18 yL_below, Cond.static yL_below, Cond.code yL_below cL_below 2 (some .int), Cond.constant RL 7 (2147483647), Cond.methodLink RL 24 yX4_more, Cond.static yX4_more, Cond.code yX4_more cX4_more 4 (some (.array (.array .int))), Cond.methodLink RL 28 yX3_open, Cond.instanceMethod yX3_open, Cond.selects RX3 yX3_open yX3_open, Cond.code yX3_open cX3_open 4 (some .int), Cond.classLink RX3 23 "java/lang/IllegalArgumentException", Cond.initialized "java/lang/IllegalArgumentException", Cond.classLink RX3 52 "java/lang/IllegalStateException", Cond.initialized "java/lang/IllegalStateException", Cond.methodLink RX3 19 yX3_isWithin, Cond.static yX3_isWithin, Cond.code yX3_isWithin cX3_isWithin 3 (some .boolean), Cond.methodLink RX3 49 yX2_addStore, Cond.instanceMethod yX2_addStore, Cond.selects RX2 yX2_addStore yX2_addStore]
def wsL_law0_r4 : List Cond := [Cond.code yX2_addStore cX2_addStore 4 (some .int), Cond.instantiable RX1 3, Cond.initialized RX1, Cond.methodLink RX2 61 yX1_init, Cond.instanceMethod yX1_init, Cond.code yX1_init cX1_init 3 none, Cond.methodLink RX1 3 objectInit, Cond.fieldLink RX1 9 "LoafMarks$Store" "flour" "I", Cond.fieldLink RX1 15 "LoafMarks$Store" "weevils" "I", Cond.methodLink RL 33 yX4_owner, Cond.instanceMethod yX4_owner, Cond.selects RX4 yX4_owner yX4_owner, Cond.code yX4_owner cX4_owner 3 (some .int), Cond.methodLink RL 37 yX3_swear, Cond.instanceMethod yX3_swear, Cond.selects RX3 yX3_swear yX3_swear, Cond.code yX3_swear cX3_swear 6 (some .int), Cond.classLink RX3 34 "java/lang/IndexOutOfBoundsException", Cond.initialized "java/lang/IndexOutOfBoundsException", Cond.methodLink RX3 57 yX2_storeAt, Cond.instanceMethod yX2_storeAt, Cond.selects RX2 yX2_storeAt yX2_storeAt, Cond.code yX2_storeAt cX2_storeAt 2 (some (.object "LoafMarks$Store")), Cond.methodLink RX3 75 yX2_bakerWithMark]
def wsL_law0_r5 : List Cond := [Cond.instanceMethod yX2_bakerWithMark, Cond.selects RX2 yX2_bakerWithMark yX2_bakerWithMark, Cond.code yX2_bakerWithMark cX2_bakerWithMark 4 (some .int), Cond.fieldLink RX2 78 "LoafMarks$Baker" "mark" "I", Cond.methodLink RX3 81 yX2_addBaker, Cond.instanceMethod yX2_addBaker, Cond.selects RX2 yX2_addBaker yX2_addBaker, Cond.code yX2_addBaker cX2_addBaker 6 (some .int), Cond.instantiable RX0 8, Cond.initialized RX0, Cond.methodLink RX2 72 yX0_init, Cond.instanceMethod yX0_init, Cond.code yX0_init cX0_init 5 none, Cond.methodLink RX0 3 objectInit, Cond.fieldLink RX0 9 "LoafMarks$Baker" "storeNumber" "I", Cond.fieldLink RX0 15 "LoafMarks$Baker" "mark" "I", Cond.fieldLink RX0 18 "LoafMarks$Baker" "weight" "I", Cond.fieldLink RX0 21 "LoafMarks$Baker" "ration" "I", Cond.methodLink RL 45 yX3_setPeople, Cond.instanceMethod yX3_setPeople, Cond.selects RX3 yX3_setPeople yX3_setPeople, Cond.code yX3_setPeople cX3_setPeople 3 (some .int), Cond.fieldLink RX3 30 "LoafMarks$Town" "people" "I", Cond.methodLink RL 52 yX3_setGate]
def wsL_law0_r6 : List Cond := [Cond.instanceMethod yX3_setGate, Cond.selects RX3 yX3_setGate yX3_setGate, Cond.code yX3_setGate cX3_setGate 3 (some .int), Cond.methodLink RX3 41 yX2_changeGate, Cond.instanceMethod yX2_changeGate, Cond.selects RX2 yX2_changeGate yX2_changeGate, Cond.code yX2_changeGate cX2_changeGate 4 (some .int), Cond.methodLink RX2 46 yX2_gateAt, Cond.instanceMethod yX2_gateAt, Cond.selects RX2 yX2_gateAt yX2_gateAt, Cond.code yX2_gateAt cX2_gateAt 2 (some .int), Cond.methodLink RL 55 yX3_smoke, Cond.instanceMethod yX3_smoke, Cond.selects RX3 yX3_smoke yX3_smoke, Cond.code yX3_smoke cX3_smoke 3 (some .int), Cond.methodLink RX3 63 yX1_smokeOut, Cond.instanceMethod yX1_smokeOut, Cond.selects RX1 yX1_smokeOut yX1_smokeOut, Cond.code yX1_smokeOut cX1_smokeOut 2 (some .int), Cond.methodLink RL 58 yX3_deal, Cond.instanceMethod yX3_deal, Cond.selects RX3 yX3_deal yX3_deal, Cond.code yX3_deal cX3_deal 5 (some .int), Cond.fieldLink RX3 93 "LoafMarks$Baker" "ration" "I"]
def wsL_law0_r7 : List Cond := [Cond.methodLink RX3 87 yX2_bakerAt, Cond.instanceMethod yX2_bakerAt, Cond.selects RX2 yX2_bakerAt yX2_bakerAt, Cond.code yX2_bakerAt cX2_bakerAt 2 (some (.object "LoafMarks$Baker")), Cond.methodLink RL 61 yX3_weigh, Cond.instanceMethod yX3_weigh, Cond.selects RX3 yX3_weigh yX3_weigh, Cond.code yX3_weigh cX3_weigh 3 (some .int), Cond.fieldLink RX3 98 "LoafMarks$Baker" "shelf" "I", Cond.methodLink RX3 103 yX0_inspect, Cond.instanceMethod yX0_inspect, Cond.selects RX0 yX0_inspect yX0_inspect, Cond.code yX0_inspect cX0_inspect 1 (some .int), Cond.fieldLink RX0 27 "LoafMarks$Baker" "shelf" "I", Cond.fieldLink RX0 33 "LoafMarks$Baker" "barred" "Z", Cond.methodLink RX0 43 yX0_bakesLight, Cond.instanceMethod yX0_bakesLight, Cond.selects RX0 yX0_bakesLight yX0_bakesLight, Cond.code yX0_bakesLight cX0_bakesLight 1 (some .boolean), Cond.methodLink RL 64 yX3_pardon, Cond.instanceMethod yX3_pardon, Cond.selects RX3 yX3_pardon yX3_pardon, Cond.code yX3_pardon cX3_pardon 3 (some .boolean), Cond.methodLink RX3 106 yX0_forgive]
def wsL_law0_r8 : List Cond := [Cond.instanceMethod yX0_forgive, Cond.selects RX0 yX0_forgive yX0_forgive, Cond.code yX0_forgive cX0_forgive 2 (some .boolean), Cond.methodLink RX0 47 Lib.Math.max.name, Cond.static Lib.Math.max.name, Cond.initialized "java/lang/Math", Cond.code Lib.Math.max.name Lib.Math.max.code 2 (some .int), Cond.methodLink RL 82 yX3_pass, Cond.instanceMethod yX3_pass, Cond.selects RX3 yX3_pass yX3_pass, Cond.code yX3_pass cX3_pass 2 (some .int), Cond.methodLink RX3 125 yX2_goThrough, Cond.instanceMethod yX2_goThrough, Cond.selects RX2 yX2_goThrough yX2_goThrough, Cond.code yX2_goThrough cX2_goThrough 4 (some .int), Cond.methodLink RX2 81 yX2_goThroughHour, Cond.instanceMethod yX2_goThroughHour, Cond.selects RX2 yX2_goThroughHour yX2_goThroughHour, Cond.code yX2_goThroughHour cX2_goThroughHour 3 (some .int), Cond.fieldLink RX2 31 "LoafMarks$Town" "hour" "I", Cond.methodLink RX2 85 yX2_hourOfDay, Cond.instanceMethod yX2_hourOfDay, Cond.selects RX2 yX2_hourOfDay yX2_hourOfDay, Cond.code yX2_hourOfDay cX2_hourOfDay 1 (some .int)]
def wsL_law0_r9 : List Cond := [Cond.methodLink RX2 104 yJ9_floorMod_7cf53, Cond.static yJ9_floorMod_7cf53, Cond.initialized RJ9, Cond.code yJ9_floorMod_7cf53 cJ9_floorMod_7cf53 3 (some .int), Cond.methodLink RX2 88 yX2_unloadCarts, Cond.instanceMethod yX2_unloadCarts, Cond.selects RX2 yX2_unloadCarts yX2_unloadCarts, Cond.code yX2_unloadCarts cX2_unloadCarts 3 none, Cond.fieldLink RX2 43 "LoafMarks$Town" "lost" "I", Cond.methodLink RX2 110 yX2_emptiestStore, Cond.instanceMethod yX2_emptiestStore, Cond.selects RX2 yX2_emptiestStore yX2_emptiestStore, Cond.code yX2_emptiestStore cX2_emptiestStore 6 (some (.object "LoafMarks$Store")), Cond.fieldLink RX2 117 "LoafMarks$Store" "flour" "I", Cond.methodLink RX2 114 yX1_takeIn, Cond.instanceMethod yX1_takeIn, Cond.selects RX1 yX1_takeIn yX1_takeIn, Cond.code yX1_takeIn cX1_takeIn 3 (some .int), Cond.methodLink RX1 21 Lib.Math.min.name, Cond.static Lib.Math.min.name, Cond.code Lib.Math.min.name Lib.Math.min.code 2 (some .int), Cond.methodLink RX2 92 yX2_dealRations, Cond.instanceMethod yX2_dealRations, Cond.selects RX2 yX2_dealRations yX2_dealRations]
def wsL_law0_r10 : List Cond := [Cond.code yX2_dealRations cX2_dealRations 6 none, Cond.fieldLink RX2 120 "LoafMarks$Baker" "barred" "Z", Cond.fieldLink RX2 124 "LoafMarks$Baker" "storeNumber" "I", Cond.fieldLink RX2 127 "LoafMarks$Baker" "atHand" "I", Cond.fieldLink RX2 130 "LoafMarks$Baker" "ration" "I", Cond.methodLink RX2 57 yX2_storeAt, Cond.methodLink RX2 133 yX1_giveOut, Cond.instanceMethod yX1_giveOut, Cond.selects RX1 yX1_giveOut yX1_giveOut, Cond.code yX1_giveOut cX1_giveOut 3 (some .int), Cond.methodLink RX2 95 yX2_feedAllWeevils, Cond.instanceMethod yX2_feedAllWeevils, Cond.selects RX2 yX2_feedAllWeevils yX2_feedAllWeevils, Cond.code yX2_feedAllWeevils cX2_feedAllWeevils 5 none, Cond.methodLink RX2 136 yX1_feedWeevils, Cond.instanceMethod yX1_feedWeevils, Cond.selects RX1 yX1_feedWeevils yX1_feedWeevils, Cond.code yX1_feedWeevils cX1_feedWeevils 1 none, Cond.fieldLink RX1 18 "LoafMarks$Store" "eaten" "I", Cond.methodLink RX1 27 yX1_giveOut, Cond.methodLink RX2 98 yX2_bakeAll, Cond.instanceMethod yX2_bakeAll, Cond.selects RX2 yX2_bakeAll yX2_bakeAll, Cond.code yX2_bakeAll cX2_bakeAll 5 none]
def wsL_law0_r11 : List Cond := [Cond.methodLink RX2 139 yX0_bake, Cond.instanceMethod yX0_bake, Cond.selects RX0 yX0_bake yX0_bake, Cond.code yX0_bake cX0_bake 2 none, Cond.fieldLink RX0 24 "LoafMarks$Baker" "atHand" "I", Cond.methodLink RX0 37 Lib.Math.min.name, Cond.methodLink RX2 101 yX2_sellAtNoon, Cond.instanceMethod yX2_sellAtNoon, Cond.selects RX2 yX2_sellAtNoon yX2_sellAtNoon, Cond.code yX2_sellAtNoon cX2_sellAtNoon 7 (some .int), Cond.fieldLink RX2 34 "LoafMarks$Town" "bought" "I", Cond.fieldLink RX2 37 "LoafMarks$Town" "light" "I", Cond.fieldLink RX2 40 "LoafMarks$Town" "hungry" "I", Cond.methodLink RX2 142 yX0_sell, Cond.instanceMethod yX0_sell, Cond.selects RX0 yX0_sell yX0_sell, Cond.code yX0_sell cX0_sell 3 (some .int), Cond.fieldLink RX0 30 "LoafMarks$Baker" "sold" "I", Cond.methodLink RX2 145 yX0_bakesLight, Cond.methodLink RL 85 yX4_pass, Cond.instanceMethod yX4_pass, Cond.selects RX4 yX4_pass yX4_pass, Cond.code yX4_pass cX4_pass 9 (some .int), Cond.fieldLink RX4 30 "LoafMarksLaw$Sim" "hour" "I"]
def wsL_law0_r12 : List Cond := [Cond.fieldLink RX4 33 "LoafMarksLaw$Sim" "lost" "I", Cond.fieldLink RX4 36 "LoafMarksLaw$Sim" "all" "I", Cond.fieldLink RX4 39 "LoafMarksLaw$Sim" "light" "I", Cond.fieldLink RX4 42 "LoafMarksLaw$Sim" "hungry" "I", Cond.methodLink RL 88 yX3_count, Cond.instanceMethod yX3_count, Cond.selects RX3 yX3_count yX3_count, Cond.code yX3_count cX3_count 2 (some .int), Cond.methodLink RX3 122 yX2_fact, Cond.instanceMethod yX2_fact, Cond.selects RX2 yX2_fact yX2_fact, Cond.code yX2_fact cX2_fact 2 (some .int), Cond.methodLink RX2 161 yX2_flourOfAll, Cond.instanceMethod yX2_flourOfAll, Cond.selects RX2 yX2_flourOfAll yX2_flourOfAll, Cond.code yX2_flourOfAll cX2_flourOfAll 6 (some .int), Cond.methodLink RX2 164 yX2_loavesOfAll, Cond.instanceMethod yX2_loavesOfAll, Cond.selects RX2 yX2_loavesOfAll yX2_loavesOfAll, Cond.code yX2_loavesOfAll cX2_loavesOfAll 6 (some .int), Cond.fieldLink RX2 152 "LoafMarks$Baker" "shelf" "I", Cond.methodLink RX2 167 yX2_barredBakers, Cond.instanceMethod yX2_barredBakers, Cond.selects RX2 yX2_barredBakers yX2_barredBakers]
def wsL_law0_r13 : List Cond := [Cond.code yX2_barredBakers cX2_barredBakers 6 (some .int), Cond.methodLink RL 91 yX3_store, Cond.instanceMethod yX3_store, Cond.selects RX3 yX3_store yX3_store, Cond.code yX3_store cX3_store 3 (some .int), Cond.methodLink RX3 112 yX2_storeFact, Cond.instanceMethod yX2_storeFact, Cond.selects RX2 yX2_storeFact yX2_storeFact, Cond.code yX2_storeFact cX2_storeFact 4 (some .int), Cond.fieldLink RX2 149 "LoafMarks$Store" "weevils" "I", Cond.fieldLink RX2 158 "LoafMarks$Store" "eaten" "I", Cond.methodLink RX2 155 yX2_bakersOfStore, Cond.instanceMethod yX2_bakersOfStore, Cond.selects RX2 yX2_bakersOfStore yX2_bakersOfStore, Cond.code yX2_bakersOfStore cX2_bakersOfStore 7 (some .int), Cond.methodLink RL 95 yX3_baker, Cond.instanceMethod yX3_baker, Cond.selects RX3 yX3_baker yX3_baker, Cond.code yX3_baker cX3_baker 4 (some .int), Cond.methodLink RX3 117 yX0_fact, Cond.instanceMethod yX0_fact, Cond.selects RX0 yX0_fact yX0_fact, Cond.code yX0_fact cX0_fact 2 (some .int), Cond.methodLink RL 98 yX3_lasts]
def wsL_law0_r14 : List Cond := [Cond.instanceMethod yX3_lasts, Cond.selects RX3 yX3_lasts yX3_lasts, Cond.code yX3_lasts cX3_lasts 2 (some .int), Cond.methodLink RX3 128 yX2_becomeLike, Cond.instanceMethod yX2_becomeLike, Cond.selects RX2 yX2_becomeLike yX2_becomeLike, Cond.code yX2_becomeLike cX2_becomeLike 3 none, Cond.methodLink RX2 50 yX2_copyStores, Cond.instanceMethod yX2_copyStores, Cond.selects RX2 yX2_copyStores yX2_copyStores, Cond.code yX2_copyStores cX2_copyStores 5 none, Cond.methodLink RX2 64 yX1_becomeLike, Cond.instanceMethod yX1_becomeLike, Cond.selects RX1 yX1_becomeLike yX1_becomeLike, Cond.code yX1_becomeLike cX1_becomeLike 2 none, Cond.methodLink RX2 54 yX2_copyBakers, Cond.instanceMethod yX2_copyBakers, Cond.selects RX2 yX2_copyBakers yX2_copyBakers, Cond.code yX2_copyBakers cX2_copyBakers 5 none, Cond.methodLink RX2 68 yX2_bakerAt, Cond.methodLink RX2 75 yX0_becomeLike, Cond.instanceMethod yX0_becomeLike, Cond.selects RX0 yX0_becomeLike yX0_becomeLike, Cond.code yX0_becomeLike cX0_becomeLike 2 none]
def wsL_law0_r15 : List Cond := [Cond.methodLink RX3 132 yX2_goThroughHour, Cond.methodLink RL 101 yX3_foresee, Cond.instanceMethod yX3_foresee, Cond.selects RX3 yX3_foresee yX3_foresee, Cond.code yX3_foresee cX3_foresee 4 (some .int), Cond.methodLink RX3 135 yX2_flourOfAll, Cond.methodLink RX3 138 yX2_loavesOfAll, Cond.methodLink RX3 141 yX2_weevilsOfAll, Cond.instanceMethod yX2_weevilsOfAll, Cond.selects RX2 yX2_weevilsOfAll yX2_weevilsOfAll, Cond.code yX2_weevilsOfAll cX2_weevilsOfAll 6 (some .int), Cond.methodLink RL 104 yX3_whose, Cond.instanceMethod yX3_whose, Cond.selects RX3 yX3_whose yX3_whose, Cond.code yX3_whose cX3_whose 2 (some .int), Cond.methodLink RL 107 yX4_isSame, Cond.instanceMethod yX4_isSame, Cond.selects RX4 yX4_isSame yX4_isSame, Cond.code yX4_isSame cX4_isSame 8 (some .boolean), Cond.methodLink RX4 45 yX3_store, Cond.methodLink RX4 51 yX3_baker, Cond.methodLink RX4 54 yX4_stored, Cond.instanceMethod yX4_stored, Cond.selects RX4 yX4_stored yX4_stored]
def wsL_law0_r16 : List Cond := [Cond.code yX4_stored cX4_stored 7 (some .int), Cond.methodLink RX4 58 yX4_baked, Cond.instanceMethod yX4_baked, Cond.selects RX4 yX4_baked yX4_baked, Cond.code yX4_baked cX4_baked 7 (some .int), Cond.methodLink RX4 61 yX3_count, Cond.methodLink RX4 64 yX3_share, Cond.instanceMethod yX3_share, Cond.selects RX3 yX3_share yX3_share, Cond.code yX3_share cX3_share 1 (some .double), Cond.fieldLink RX3 150 "LoafMarks$Town" "bought" "I", Cond.fieldLink RX3 153 "LoafMarks$Town" "light" "I"]
def wsL_law0 : List Cond := (wsL_law0_r1 ++ (wsL_law0_r2 ++ (wsL_law0_r3 ++ (wsL_law0_r4 ++ (wsL_law0_r5 ++ (wsL_law0_r6 ++ (wsL_law0_r7 ++ (wsL_law0_r8 ++ (wsL_law0_r9 ++ (wsL_law0_r10 ++ (wsL_law0_r11 ++ (wsL_law0_r12 ++ (wsL_law0_r13 ++ (wsL_law0_r14 ++ (wsL_law0_r15 ++ wsL_law0_r16))))))))))))))) ++ wsX30 ++ wsX40 ++ wsX20 ++ wsX10 ++ wsX00 ++ ([] : List Cond)
def wsL_law : List Cond := wsL_law0 ++ (vx_atS RX3 27 "java/lang/IllegalArgumentException" ["java/lang/RuntimeException", "java/lang/Exception"]).filter goodWord ++ (vx_atS RX3 56 "java/lang/IllegalStateException" ["java/lang/RuntimeException", "java/lang/Exception"]).filter goodWord ++ (vx_atS RX3 38 "java/lang/IndexOutOfBoundsException" ["java/lang/RuntimeException", "java/lang/Exception"]).filter goodWord
theorem dX0_init_0 : decode cX0_init 0 = .ok (.aload_n 0, 1) := by decide +kernel
theorem dX0_init_1 : decode cX0_init 1 = .ok (.invokespecial 3, 3) := by decide +kernel
theorem dX0_init_4 : decode cX0_init 4 = .ok (.aload_n 0, 1) := by decide +kernel
theorem dX0_init_5 : decode cX0_init 5 = .ok (.iload_n 1, 1) := by decide +kernel
theorem dX0_init_6 : decode cX0_init 6 = .ok (.putfield 9, 3) := by decide +kernel
theorem dX0_init_9 : decode cX0_init 9 = .ok (.aload_n 0, 1) := by decide +kernel
theorem dX0_init_10 : decode cX0_init 10 = .ok (.iload_n 2, 1) := by decide +kernel
theorem dX0_init_11 : decode cX0_init 11 = .ok (.putfield 15, 3) := by decide +kernel
theorem dX0_init_14 : decode cX0_init 14 = .ok (.aload_n 0, 1) := by decide +kernel
theorem dX0_init_15 : decode cX0_init 15 = .ok (.iload_n 3, 1) := by decide +kernel
theorem dX0_init_16 : decode cX0_init 16 = .ok (.putfield 18, 3) := by decide +kernel
theorem dX0_init_19 : decode cX0_init 19 = .ok (.aload_n 0, 1) := by decide +kernel
theorem dX0_init_20 : decode cX0_init 20 = .ok (.iload 4, 2) := by decide +kernel
theorem dX0_init_22 : decode cX0_init 22 = .ok (.putfield 21, 3) := by decide +kernel
theorem dX0_init_25 : decode cX0_init 25 = .ok (.return_, 1) := by decide +kernel
theorem dX0_becomeLike_0 : decode cX0_becomeLike 0 = .ok (.aload_n 0, 1) := by decide +kernel
theorem dX0_becomeLike_1 : decode cX0_becomeLike 1 = .ok (.aload_n 1, 1) := by decide +kernel
theorem dX0_becomeLike_2 : decode cX0_becomeLike 2 = .ok (.getfield 9, 3) := by decide +kernel
theorem dX0_becomeLike_5 : decode cX0_becomeLike 5 = .ok (.putfield 9, 3) := by decide +kernel
theorem dX0_becomeLike_8 : decode cX0_becomeLike 8 = .ok (.aload_n 0, 1) := by decide +kernel
theorem dX0_becomeLike_9 : decode cX0_becomeLike 9 = .ok (.aload_n 1, 1) := by decide +kernel
theorem dX0_becomeLike_10 : decode cX0_becomeLike 10 = .ok (.getfield 15, 3) := by decide +kernel
theorem dX0_becomeLike_13 : decode cX0_becomeLike 13 = .ok (.putfield 15, 3) := by decide +kernel
theorem dX0_becomeLike_16 : decode cX0_becomeLike 16 = .ok (.aload_n 0, 1) := by decide +kernel
theorem dX0_becomeLike_17 : decode cX0_becomeLike 17 = .ok (.aload_n 1, 1) := by decide +kernel
theorem dX0_becomeLike_18 : decode cX0_becomeLike 18 = .ok (.getfield 21, 3) := by decide +kernel
theorem dX0_becomeLike_21 : decode cX0_becomeLike 21 = .ok (.putfield 21, 3) := by decide +kernel
theorem dX0_becomeLike_24 : decode cX0_becomeLike 24 = .ok (.aload_n 0, 1) := by decide +kernel
theorem dX0_becomeLike_25 : decode cX0_becomeLike 25 = .ok (.aload_n 1, 1) := by decide +kernel
theorem dX0_becomeLike_26 : decode cX0_becomeLike 26 = .ok (.getfield 24, 3) := by decide +kernel
theorem dX0_becomeLike_29 : decode cX0_becomeLike 29 = .ok (.putfield 24, 3) := by decide +kernel
theorem dX0_becomeLike_32 : decode cX0_becomeLike 32 = .ok (.aload_n 0, 1) := by decide +kernel
theorem dX0_becomeLike_33 : decode cX0_becomeLike 33 = .ok (.aload_n 1, 1) := by decide +kernel
theorem dX0_becomeLike_34 : decode cX0_becomeLike 34 = .ok (.getfield 18, 3) := by decide +kernel
theorem dX0_becomeLike_37 : decode cX0_becomeLike 37 = .ok (.putfield 18, 3) := by decide +kernel
theorem dX0_becomeLike_40 : decode cX0_becomeLike 40 = .ok (.aload_n 0, 1) := by decide +kernel
theorem dX0_becomeLike_41 : decode cX0_becomeLike 41 = .ok (.aload_n 1, 1) := by decide +kernel
theorem dX0_becomeLike_42 : decode cX0_becomeLike 42 = .ok (.getfield 27, 3) := by decide +kernel
theorem dX0_becomeLike_45 : decode cX0_becomeLike 45 = .ok (.putfield 27, 3) := by decide +kernel
theorem dX0_becomeLike_48 : decode cX0_becomeLike 48 = .ok (.aload_n 0, 1) := by decide +kernel
theorem dX0_becomeLike_49 : decode cX0_becomeLike 49 = .ok (.aload_n 1, 1) := by decide +kernel
theorem dX0_becomeLike_50 : decode cX0_becomeLike 50 = .ok (.getfield 30, 3) := by decide +kernel
theorem dX0_becomeLike_53 : decode cX0_becomeLike 53 = .ok (.putfield 30, 3) := by decide +kernel
theorem dX0_becomeLike_56 : decode cX0_becomeLike 56 = .ok (.aload_n 0, 1) := by decide +kernel
theorem dX0_becomeLike_57 : decode cX0_becomeLike 57 = .ok (.aload_n 1, 1) := by decide +kernel
theorem dX0_becomeLike_58 : decode cX0_becomeLike 58 = .ok (.getfield 33, 3) := by decide +kernel
theorem dX0_becomeLike_61 : decode cX0_becomeLike 61 = .ok (.putfield 33, 3) := by decide +kernel
theorem dX0_becomeLike_64 : decode cX0_becomeLike 64 = .ok (.return_, 1) := by decide +kernel
theorem dX0_bakesLight_0 : decode cX0_bakesLight 0 = .ok (.aload_n 0, 1) := by decide +kernel
theorem dX0_bakesLight_1 : decode cX0_bakesLight 1 = .ok (.getfield 18, 3) := by decide +kernel
theorem dX0_bakesLight_4 : decode cX0_bakesLight 4 = .ok (.bipush 10, 2) := by decide +kernel
theorem dX0_bakesLight_6 : decode cX0_bakesLight 6 = .ok (.if_icmp .ge 7, 3) := by decide +kernel
theorem dX0_bakesLight_9 : decode cX0_bakesLight 9 = .ok (.iconst 1, 1) := by decide +kernel
theorem dX0_bakesLight_10 : decode cX0_bakesLight 10 = .ok (.goto 4, 3) := by decide +kernel
theorem dX0_bakesLight_13 : decode cX0_bakesLight 13 = .ok (.iconst 0, 1) := by decide +kernel
theorem dX0_bakesLight_14 : decode cX0_bakesLight 14 = .ok (.ireturn, 1) := by decide +kernel
theorem dX0_bake_0 : decode cX0_bake 0 = .ok (.aload_n 0, 1) := by decide +kernel
theorem dX0_bake_1 : decode cX0_bake 1 = .ok (.getfield 33, 3) := by decide +kernel
theorem dX0_bake_4 : decode cX0_bake 4 = .ok (.ifCond .ne 10, 3) := by decide +kernel
theorem dX0_bake_7 : decode cX0_bake 7 = .ok (.aload_n 0, 1) := by decide +kernel
theorem dX0_bake_8 : decode cX0_bake 8 = .ok (.getfield 18, 3) := by decide +kernel
theorem dX0_bake_11 : decode cX0_bake 11 = .ok (.ifCond .gt 4, 3) := by decide +kernel
theorem dX0_bake_14 : decode cX0_bake 14 = .ok (.return_, 1) := by decide +kernel
theorem dX0_bake_15 : decode cX0_bake 15 = .ok (.aload_n 0, 1) := by decide +kernel
theorem dX0_bake_16 : decode cX0_bake 16 = .ok (.getfield 24, 3) := by decide +kernel
theorem dX0_bake_19 : decode cX0_bake 19 = .ok (.aload_n 0, 1) := by decide +kernel
theorem dX0_bake_20 : decode cX0_bake 20 = .ok (.getfield 18, 3) := by decide +kernel
theorem dX0_bake_23 : decode cX0_bake 23 = .ok (.idiv, 1) := by decide +kernel
theorem dX0_bake_24 : decode cX0_bake 24 = .ok (.iconst 4, 1) := by decide +kernel
theorem dX0_bake_25 : decode cX0_bake 25 = .ok (.invokestatic 37, 3) := by decide +kernel
theorem dX0_bake_28 : decode cX0_bake 28 = .ok (.istore_n 1, 1) := by decide +kernel
theorem dX0_bake_29 : decode cX0_bake 29 = .ok (.aload_n 0, 1) := by decide +kernel
theorem dX0_bake_30 : decode cX0_bake 30 = .ok (.dup, 1) := by decide +kernel
theorem dX0_bake_31 : decode cX0_bake 31 = .ok (.getfield 24, 3) := by decide +kernel
theorem dX0_bake_34 : decode cX0_bake 34 = .ok (.iload_n 1, 1) := by decide +kernel
theorem dX0_bake_35 : decode cX0_bake 35 = .ok (.aload_n 0, 1) := by decide +kernel
theorem dX0_bake_36 : decode cX0_bake 36 = .ok (.getfield 18, 3) := by decide +kernel
theorem dX0_bake_39 : decode cX0_bake 39 = .ok (.imul, 1) := by decide +kernel
theorem dX0_bake_40 : decode cX0_bake 40 = .ok (.isub, 1) := by decide +kernel
theorem dX0_bake_41 : decode cX0_bake 41 = .ok (.putfield 24, 3) := by decide +kernel
theorem dX0_bake_44 : decode cX0_bake 44 = .ok (.aload_n 0, 1) := by decide +kernel
theorem dX0_bake_45 : decode cX0_bake 45 = .ok (.dup, 1) := by decide +kernel
theorem dX0_bake_46 : decode cX0_bake 46 = .ok (.getfield 27, 3) := by decide +kernel
theorem dX0_bake_49 : decode cX0_bake 49 = .ok (.iload_n 1, 1) := by decide +kernel
theorem dX0_bake_50 : decode cX0_bake 50 = .ok (.iadd, 1) := by decide +kernel
theorem dX0_bake_51 : decode cX0_bake 51 = .ok (.putfield 27, 3) := by decide +kernel
theorem dX0_bake_54 : decode cX0_bake 54 = .ok (.return_, 1) := by decide +kernel
theorem dX0_sell_0 : decode cX0_sell 0 = .ok (.iload_n 1, 1) := by decide +kernel
theorem dX0_sell_1 : decode cX0_sell 1 = .ok (.aload_n 0, 1) := by decide +kernel
theorem dX0_sell_2 : decode cX0_sell 2 = .ok (.getfield 27, 3) := by decide +kernel
theorem dX0_sell_5 : decode cX0_sell 5 = .ok (.invokestatic 37, 3) := by decide +kernel
theorem dX0_sell_8 : decode cX0_sell 8 = .ok (.istore_n 2, 1) := by decide +kernel
theorem dX0_sell_9 : decode cX0_sell 9 = .ok (.aload_n 0, 1) := by decide +kernel
theorem dX0_sell_10 : decode cX0_sell 10 = .ok (.dup, 1) := by decide +kernel
theorem dX0_sell_11 : decode cX0_sell 11 = .ok (.getfield 27, 3) := by decide +kernel
theorem dX0_sell_14 : decode cX0_sell 14 = .ok (.iload_n 2, 1) := by decide +kernel
theorem dX0_sell_15 : decode cX0_sell 15 = .ok (.isub, 1) := by decide +kernel
theorem dX0_sell_16 : decode cX0_sell 16 = .ok (.putfield 27, 3) := by decide +kernel
theorem dX0_sell_19 : decode cX0_sell 19 = .ok (.aload_n 0, 1) := by decide +kernel
theorem dX0_sell_20 : decode cX0_sell 20 = .ok (.dup, 1) := by decide +kernel
theorem dX0_sell_21 : decode cX0_sell 21 = .ok (.getfield 30, 3) := by decide +kernel
theorem dX0_sell_24 : decode cX0_sell 24 = .ok (.iload_n 2, 1) := by decide +kernel
theorem dX0_sell_25 : decode cX0_sell 25 = .ok (.iadd, 1) := by decide +kernel
theorem dX0_sell_26 : decode cX0_sell 26 = .ok (.putfield 30, 3) := by decide +kernel
theorem dX0_sell_29 : decode cX0_sell 29 = .ok (.iload_n 2, 1) := by decide +kernel
theorem dX0_sell_30 : decode cX0_sell 30 = .ok (.ireturn, 1) := by decide +kernel
set_option maxRecDepth 20000 in
theorem ggX0_inspect_X0_bakesLight : GoodIn wsX0_inspect wsX0_bakesLight := goodIn_r _ [8, 3, 9, 10, 11, 12, 13, 14, 15, 16] (by decide +kernel) (by decide +kernel)
set_option maxRecDepth 20000 in
theorem gX0_inspect_X0_bakesLight : GoodIn wsX0_inspect (wsV RX0 43 RX0 yX0_bakesLight wsX0_bakesLight) := goodIn_app (goodIn_of _ (by decide +kernel)) ggX0_inspect_X0_bakesLight
theorem dX0_inspect_0 : decode cX0_inspect 0 = .ok (.aload_n 0, 1) := by decide +kernel
theorem dX0_inspect_1 : decode cX0_inspect 1 = .ok (.dup, 1) := by decide +kernel
theorem dX0_inspect_2 : decode cX0_inspect 2 = .ok (.getfield 27, 3) := by decide +kernel
theorem dX0_inspect_5 : decode cX0_inspect 5 = .ok (.iconst 1, 1) := by decide +kernel
theorem dX0_inspect_6 : decode cX0_inspect 6 = .ok (.isub, 1) := by decide +kernel
theorem dX0_inspect_7 : decode cX0_inspect 7 = .ok (.putfield 27, 3) := by decide +kernel
theorem dX0_inspect_10 : decode cX0_inspect 10 = .ok (.aload_n 0, 1) := by decide +kernel
theorem dX0_inspect_11 : decode cX0_inspect 11 = .ok (.invokevirtual 43, 3) := by decide +kernel
theorem dX0_inspect_14 : decode cX0_inspect 14 = .ok (.ifCond .eq 8, 3) := by decide +kernel
theorem dX0_inspect_17 : decode cX0_inspect 17 = .ok (.aload_n 0, 1) := by decide +kernel
theorem dX0_inspect_18 : decode cX0_inspect 18 = .ok (.iconst 1, 1) := by decide +kernel
theorem dX0_inspect_19 : decode cX0_inspect 19 = .ok (.putfield 33, 3) := by decide +kernel
theorem dX0_inspect_22 : decode cX0_inspect 22 = .ok (.aload_n 0, 1) := by decide +kernel
theorem dX0_inspect_23 : decode cX0_inspect 23 = .ok (.getfield 18, 3) := by decide +kernel
theorem dX0_inspect_26 : decode cX0_inspect 26 = .ok (.ireturn, 1) := by decide +kernel
theorem dX0_forgive_0 : decode cX0_forgive 0 = .ok (.aload_n 0, 1) := by decide +kernel
theorem dX0_forgive_1 : decode cX0_forgive 1 = .ok (.getfield 33, 3) := by decide +kernel
theorem dX0_forgive_4 : decode cX0_forgive 4 = .ok (.istore_n 1, 1) := by decide +kernel
theorem dX0_forgive_5 : decode cX0_forgive 5 = .ok (.aload_n 0, 1) := by decide +kernel
theorem dX0_forgive_6 : decode cX0_forgive 6 = .ok (.iconst 0, 1) := by decide +kernel
theorem dX0_forgive_7 : decode cX0_forgive 7 = .ok (.putfield 33, 3) := by decide +kernel
theorem dX0_forgive_10 : decode cX0_forgive 10 = .ok (.aload_n 0, 1) := by decide +kernel
theorem dX0_forgive_11 : decode cX0_forgive 11 = .ok (.aload_n 0, 1) := by decide +kernel
theorem dX0_forgive_12 : decode cX0_forgive 12 = .ok (.getfield 18, 3) := by decide +kernel
theorem dX0_forgive_15 : decode cX0_forgive 15 = .ok (.bipush 10, 2) := by decide +kernel
theorem dX0_forgive_17 : decode cX0_forgive 17 = .ok (.invokestatic 47, 3) := by decide +kernel
theorem dX0_forgive_20 : decode cX0_forgive 20 = .ok (.putfield 18, 3) := by decide +kernel
theorem dX0_forgive_23 : decode cX0_forgive 23 = .ok (.iload_n 1, 1) := by decide +kernel
theorem dX0_forgive_24 : decode cX0_forgive 24 = .ok (.ireturn, 1) := by decide +kernel
theorem dX0_fact_0 : decode cX0_fact 0 = .ok (.iload_n 1, 1) := by decide +kernel
theorem dX0_fact_1 : decode cX0_fact 1 = .ok (.tableswitch 78 0 6 #[43, 48, 53, 58, 63, 68, 73], 43) := by decide +kernel
theorem dX0_fact_44 : decode cX0_fact 44 = .ok (.aload_n 0, 1) := by decide +kernel
theorem dX0_fact_45 : decode cX0_fact 45 = .ok (.getfield 9, 3) := by decide +kernel
theorem dX0_fact_48 : decode cX0_fact 48 = .ok (.ireturn, 1) := by decide +kernel
theorem dX0_fact_49 : decode cX0_fact 49 = .ok (.aload_n 0, 1) := by decide +kernel
theorem dX0_fact_50 : decode cX0_fact 50 = .ok (.getfield 15, 3) := by decide +kernel
theorem dX0_fact_53 : decode cX0_fact 53 = .ok (.ireturn, 1) := by decide +kernel
theorem dX0_fact_54 : decode cX0_fact 54 = .ok (.aload_n 0, 1) := by decide +kernel
theorem dX0_fact_55 : decode cX0_fact 55 = .ok (.getfield 21, 3) := by decide +kernel
theorem dX0_fact_58 : decode cX0_fact 58 = .ok (.ireturn, 1) := by decide +kernel
theorem dX0_fact_59 : decode cX0_fact 59 = .ok (.aload_n 0, 1) := by decide +kernel
theorem dX0_fact_60 : decode cX0_fact 60 = .ok (.getfield 24, 3) := by decide +kernel
theorem dX0_fact_63 : decode cX0_fact 63 = .ok (.ireturn, 1) := by decide +kernel
theorem dX0_fact_64 : decode cX0_fact 64 = .ok (.aload_n 0, 1) := by decide +kernel
theorem dX0_fact_65 : decode cX0_fact 65 = .ok (.getfield 18, 3) := by decide +kernel
theorem dX0_fact_68 : decode cX0_fact 68 = .ok (.ireturn, 1) := by decide +kernel
theorem dX0_fact_69 : decode cX0_fact 69 = .ok (.aload_n 0, 1) := by decide +kernel
theorem dX0_fact_70 : decode cX0_fact 70 = .ok (.getfield 27, 3) := by decide +kernel
theorem dX0_fact_73 : decode cX0_fact 73 = .ok (.ireturn, 1) := by decide +kernel
theorem dX0_fact_74 : decode cX0_fact 74 = .ok (.aload_n 0, 1) := by decide +kernel
theorem dX0_fact_75 : decode cX0_fact 75 = .ok (.getfield 30, 3) := by decide +kernel
theorem dX0_fact_78 : decode cX0_fact 78 = .ok (.ireturn, 1) := by decide +kernel
theorem dX0_fact_79 : decode cX0_fact 79 = .ok (.aload_n 0, 1) := by decide +kernel
theorem dX0_fact_80 : decode cX0_fact 80 = .ok (.getfield 33, 3) := by decide +kernel
theorem dX0_fact_83 : decode cX0_fact 83 = .ok (.ifCond .eq 7, 3) := by decide +kernel
theorem dX0_fact_86 : decode cX0_fact 86 = .ok (.iconst 1, 1) := by decide +kernel
theorem dX0_fact_87 : decode cX0_fact 87 = .ok (.goto 4, 3) := by decide +kernel
theorem dX0_fact_90 : decode cX0_fact 90 = .ok (.iconst 0, 1) := by decide +kernel
theorem dX0_fact_91 : decode cX0_fact 91 = .ok (.ireturn, 1) := by decide +kernel
theorem dX1_init_0 : decode cX1_init 0 = .ok (.aload_n 0, 1) := by decide +kernel
theorem dX1_init_1 : decode cX1_init 1 = .ok (.invokespecial 3, 3) := by decide +kernel
theorem dX1_init_4 : decode cX1_init 4 = .ok (.aload_n 0, 1) := by decide +kernel
theorem dX1_init_5 : decode cX1_init 5 = .ok (.iload_n 1, 1) := by decide +kernel
theorem dX1_init_6 : decode cX1_init 6 = .ok (.putfield 9, 3) := by decide +kernel
theorem dX1_init_9 : decode cX1_init 9 = .ok (.aload_n 0, 1) := by decide +kernel
theorem dX1_init_10 : decode cX1_init 10 = .ok (.iload_n 2, 1) := by decide +kernel
theorem dX1_init_11 : decode cX1_init 11 = .ok (.putfield 15, 3) := by decide +kernel
theorem dX1_init_14 : decode cX1_init 14 = .ok (.return_, 1) := by decide +kernel
theorem dX1_becomeLike_0 : decode cX1_becomeLike 0 = .ok (.aload_n 0, 1) := by decide +kernel
theorem dX1_becomeLike_1 : decode cX1_becomeLike 1 = .ok (.aload_n 1, 1) := by decide +kernel
theorem dX1_becomeLike_2 : decode cX1_becomeLike 2 = .ok (.getfield 9, 3) := by decide +kernel
theorem dX1_becomeLike_5 : decode cX1_becomeLike 5 = .ok (.putfield 9, 3) := by decide +kernel
theorem dX1_becomeLike_8 : decode cX1_becomeLike 8 = .ok (.aload_n 0, 1) := by decide +kernel
theorem dX1_becomeLike_9 : decode cX1_becomeLike 9 = .ok (.aload_n 1, 1) := by decide +kernel
theorem dX1_becomeLike_10 : decode cX1_becomeLike 10 = .ok (.getfield 15, 3) := by decide +kernel
theorem dX1_becomeLike_13 : decode cX1_becomeLike 13 = .ok (.putfield 15, 3) := by decide +kernel
theorem dX1_becomeLike_16 : decode cX1_becomeLike 16 = .ok (.aload_n 0, 1) := by decide +kernel
theorem dX1_becomeLike_17 : decode cX1_becomeLike 17 = .ok (.aload_n 1, 1) := by decide +kernel
theorem dX1_becomeLike_18 : decode cX1_becomeLike 18 = .ok (.getfield 18, 3) := by decide +kernel
theorem dX1_becomeLike_21 : decode cX1_becomeLike 21 = .ok (.putfield 18, 3) := by decide +kernel
theorem dX1_becomeLike_24 : decode cX1_becomeLike 24 = .ok (.return_, 1) := by decide +kernel
theorem dX1_takeIn_0 : decode cX1_takeIn 0 = .ok (.iload_n 1, 1) := by decide +kernel
theorem dX1_takeIn_1 : decode cX1_takeIn 1 = .ok (.sipush 900, 3) := by decide +kernel
theorem dX1_takeIn_4 : decode cX1_takeIn 4 = .ok (.aload_n 0, 1) := by decide +kernel
theorem dX1_takeIn_5 : decode cX1_takeIn 5 = .ok (.getfield 9, 3) := by decide +kernel
theorem dX1_takeIn_8 : decode cX1_takeIn 8 = .ok (.isub, 1) := by decide +kernel
theorem dX1_takeIn_9 : decode cX1_takeIn 9 = .ok (.invokestatic 21, 3) := by decide +kernel
theorem dX1_takeIn_12 : decode cX1_takeIn 12 = .ok (.istore_n 2, 1) := by decide +kernel
theorem dX1_takeIn_13 : decode cX1_takeIn 13 = .ok (.aload_n 0, 1) := by decide +kernel
theorem dX1_takeIn_14 : decode cX1_takeIn 14 = .ok (.dup, 1) := by decide +kernel
theorem dX1_takeIn_15 : decode cX1_takeIn 15 = .ok (.getfield 9, 3) := by decide +kernel
theorem dX1_takeIn_18 : decode cX1_takeIn 18 = .ok (.iload_n 2, 1) := by decide +kernel
theorem dX1_takeIn_19 : decode cX1_takeIn 19 = .ok (.iadd, 1) := by decide +kernel
theorem dX1_takeIn_20 : decode cX1_takeIn 20 = .ok (.putfield 9, 3) := by decide +kernel
theorem dX1_takeIn_23 : decode cX1_takeIn 23 = .ok (.iload_n 1, 1) := by decide +kernel
theorem dX1_takeIn_24 : decode cX1_takeIn 24 = .ok (.iload_n 2, 1) := by decide +kernel
theorem dX1_takeIn_25 : decode cX1_takeIn 25 = .ok (.isub, 1) := by decide +kernel
theorem dX1_takeIn_26 : decode cX1_takeIn 26 = .ok (.ireturn, 1) := by decide +kernel
theorem dX1_giveOut_0 : decode cX1_giveOut 0 = .ok (.iload_n 1, 1) := by decide +kernel
theorem dX1_giveOut_1 : decode cX1_giveOut 1 = .ok (.aload_n 0, 1) := by decide +kernel
theorem dX1_giveOut_2 : decode cX1_giveOut 2 = .ok (.getfield 9, 3) := by decide +kernel
theorem dX1_giveOut_5 : decode cX1_giveOut 5 = .ok (.invokestatic 21, 3) := by decide +kernel
theorem dX1_giveOut_8 : decode cX1_giveOut 8 = .ok (.istore_n 2, 1) := by decide +kernel
theorem dX1_giveOut_9 : decode cX1_giveOut 9 = .ok (.aload_n 0, 1) := by decide +kernel
theorem dX1_giveOut_10 : decode cX1_giveOut 10 = .ok (.dup, 1) := by decide +kernel
theorem dX1_giveOut_11 : decode cX1_giveOut 11 = .ok (.getfield 9, 3) := by decide +kernel
theorem dX1_giveOut_14 : decode cX1_giveOut 14 = .ok (.iload_n 2, 1) := by decide +kernel
theorem dX1_giveOut_15 : decode cX1_giveOut 15 = .ok (.isub, 1) := by decide +kernel
theorem dX1_giveOut_16 : decode cX1_giveOut 16 = .ok (.putfield 9, 3) := by decide +kernel
theorem dX1_giveOut_19 : decode cX1_giveOut 19 = .ok (.iload_n 2, 1) := by decide +kernel
theorem dX1_giveOut_20 : decode cX1_giveOut 20 = .ok (.ireturn, 1) := by decide +kernel
set_option maxRecDepth 20000 in
theorem ggX1_feedWeevils_X1_giveOut : GoodIn wsX1_feedWeevils wsX1_giveOut := goodIn_r _ [12, 3, 4, 5, 6, 7, 13, 14, 15] (by decide +kernel) (by decide +kernel)
set_option maxRecDepth 20000 in
theorem gX1_feedWeevils_X1_giveOut : GoodIn wsX1_feedWeevils (wsV RX1 27 RX1 yX1_giveOut wsX1_giveOut) := goodIn_app (goodIn_of _ (by decide +kernel)) ggX1_feedWeevils_X1_giveOut
theorem dX1_feedWeevils_0 : decode cX1_feedWeevils 0 = .ok (.aload_n 0, 1) := by decide +kernel
theorem dX1_feedWeevils_1 : decode cX1_feedWeevils 1 = .ok (.dup, 1) := by decide +kernel
theorem dX1_feedWeevils_2 : decode cX1_feedWeevils 2 = .ok (.getfield 18, 3) := by decide +kernel
theorem dX1_feedWeevils_5 : decode cX1_feedWeevils 5 = .ok (.aload_n 0, 1) := by decide +kernel
theorem dX1_feedWeevils_6 : decode cX1_feedWeevils 6 = .ok (.aload_n 0, 1) := by decide +kernel
theorem dX1_feedWeevils_7 : decode cX1_feedWeevils 7 = .ok (.getfield 15, 3) := by decide +kernel
theorem dX1_feedWeevils_10 : decode cX1_feedWeevils 10 = .ok (.invokevirtual 27, 3) := by decide +kernel
theorem dX1_feedWeevils_13 : decode cX1_feedWeevils 13 = .ok (.iadd, 1) := by decide +kernel
theorem dX1_feedWeevils_14 : decode cX1_feedWeevils 14 = .ok (.putfield 18, 3) := by decide +kernel
theorem dX1_feedWeevils_17 : decode cX1_feedWeevils 17 = .ok (.aload_n 0, 1) := by decide +kernel
theorem dX1_feedWeevils_18 : decode cX1_feedWeevils 18 = .ok (.getfield 9, 3) := by decide +kernel
theorem dX1_feedWeevils_21 : decode cX1_feedWeevils 21 = .ok (.ifCond .le 28, 3) := by decide +kernel
theorem dX1_feedWeevils_24 : decode cX1_feedWeevils 24 = .ok (.aload_n 0, 1) := by decide +kernel
theorem dX1_feedWeevils_25 : decode cX1_feedWeevils 25 = .ok (.aload_n 0, 1) := by decide +kernel
theorem dX1_feedWeevils_26 : decode cX1_feedWeevils 26 = .ok (.getfield 15, 3) := by decide +kernel
theorem dX1_feedWeevils_29 : decode cX1_feedWeevils 29 = .ok (.aload_n 0, 1) := by decide +kernel
theorem dX1_feedWeevils_30 : decode cX1_feedWeevils 30 = .ok (.getfield 15, 3) := by decide +kernel
theorem dX1_feedWeevils_33 : decode cX1_feedWeevils 33 = .ok (.iconst 4, 1) := by decide +kernel
theorem dX1_feedWeevils_34 : decode cX1_feedWeevils 34 = .ok (.idiv, 1) := by decide +kernel
theorem dX1_feedWeevils_35 : decode cX1_feedWeevils 35 = .ok (.iadd, 1) := by decide +kernel
theorem dX1_feedWeevils_36 : decode cX1_feedWeevils 36 = .ok (.iconst 1, 1) := by decide +kernel
theorem dX1_feedWeevils_37 : decode cX1_feedWeevils 37 = .ok (.iadd, 1) := by decide +kernel
theorem dX1_feedWeevils_38 : decode cX1_feedWeevils 38 = .ok (.bipush 50, 2) := by decide +kernel
theorem dX1_feedWeevils_40 : decode cX1_feedWeevils 40 = .ok (.invokestatic 21, 3) := by decide +kernel
theorem dX1_feedWeevils_43 : decode cX1_feedWeevils 43 = .ok (.putfield 15, 3) := by decide +kernel
theorem dX1_feedWeevils_46 : decode cX1_feedWeevils 46 = .ok (.goto 13, 3) := by decide +kernel
theorem dX1_feedWeevils_49 : decode cX1_feedWeevils 49 = .ok (.aload_n 0, 1) := by decide +kernel
theorem dX1_feedWeevils_50 : decode cX1_feedWeevils 50 = .ok (.aload_n 0, 1) := by decide +kernel
theorem dX1_feedWeevils_51 : decode cX1_feedWeevils 51 = .ok (.getfield 15, 3) := by decide +kernel
theorem dX1_feedWeevils_54 : decode cX1_feedWeevils 54 = .ok (.iconst 2, 1) := by decide +kernel
theorem dX1_feedWeevils_55 : decode cX1_feedWeevils 55 = .ok (.idiv, 1) := by decide +kernel
theorem dX1_feedWeevils_56 : decode cX1_feedWeevils 56 = .ok (.putfield 15, 3) := by decide +kernel
theorem dX1_feedWeevils_59 : decode cX1_feedWeevils 59 = .ok (.return_, 1) := by decide +kernel
theorem dX1_smokeOut_0 : decode cX1_smokeOut 0 = .ok (.aload_n 0, 1) := by decide +kernel
theorem dX1_smokeOut_1 : decode cX1_smokeOut 1 = .ok (.getfield 15, 3) := by decide +kernel
theorem dX1_smokeOut_4 : decode cX1_smokeOut 4 = .ok (.istore_n 1, 1) := by decide +kernel
theorem dX1_smokeOut_5 : decode cX1_smokeOut 5 = .ok (.aload_n 0, 1) := by decide +kernel
theorem dX1_smokeOut_6 : decode cX1_smokeOut 6 = .ok (.iconst 0, 1) := by decide +kernel
theorem dX1_smokeOut_7 : decode cX1_smokeOut 7 = .ok (.putfield 15, 3) := by decide +kernel
theorem dX1_smokeOut_10 : decode cX1_smokeOut 10 = .ok (.aload_n 0, 1) := by decide +kernel
theorem dX1_smokeOut_11 : decode cX1_smokeOut 11 = .ok (.dup, 1) := by decide +kernel
theorem dX1_smokeOut_12 : decode cX1_smokeOut 12 = .ok (.getfield 9, 3) := by decide +kernel
theorem dX1_smokeOut_15 : decode cX1_smokeOut 15 = .ok (.aload_n 0, 1) := by decide +kernel
theorem dX1_smokeOut_16 : decode cX1_smokeOut 16 = .ok (.getfield 9, 3) := by decide +kernel
theorem dX1_smokeOut_19 : decode cX1_smokeOut 19 = .ok (.bipush 10, 2) := by decide +kernel
theorem dX1_smokeOut_21 : decode cX1_smokeOut 21 = .ok (.idiv, 1) := by decide +kernel
theorem dX1_smokeOut_22 : decode cX1_smokeOut 22 = .ok (.isub, 1) := by decide +kernel
theorem dX1_smokeOut_23 : decode cX1_smokeOut 23 = .ok (.putfield 9, 3) := by decide +kernel
theorem dX1_smokeOut_26 : decode cX1_smokeOut 26 = .ok (.iload_n 1, 1) := by decide +kernel
theorem dX1_smokeOut_27 : decode cX1_smokeOut 27 = .ok (.ireturn, 1) := by decide +kernel
theorem dX2_init_0 : decode cX2_init 0 = .ok (.aload_n 0, 1) := by decide +kernel
theorem dX2_init_1 : decode cX2_init 1 = .ok (.invokespecial 3, 3) := by decide +kernel
theorem dX2_init_4 : decode cX2_init 4 = .ok (.aload_n 0, 1) := by decide +kernel
theorem dX2_init_5 : decode cX2_init 5 = .ok (.bipush 24, 2) := by decide +kernel
theorem dX2_init_7 : decode cX2_init 7 = .ok (.newarray .int, 2) := by decide +kernel
theorem dX2_init_9 : decode cX2_init 9 = .ok (.putfield 9, 3) := by decide +kernel
theorem dX2_init_12 : decode cX2_init 12 = .ok (.aload_n 0, 1) := by decide +kernel
theorem dX2_init_13 : decode cX2_init 13 = .ok (.iconst 4, 1) := by decide +kernel
theorem dX2_init_14 : decode cX2_init 14 = .ok (.anewarray 15, 3) := by decide +kernel
theorem dX2_init_17 : decode cX2_init 17 = .ok (.putfield 17, 3) := by decide +kernel
theorem dX2_init_20 : decode cX2_init 20 = .ok (.aload_n 0, 1) := by decide +kernel
theorem dX2_init_21 : decode cX2_init 21 = .ok (.bipush 6, 2) := by decide +kernel
theorem dX2_init_23 : decode cX2_init 23 = .ok (.anewarray 21, 3) := by decide +kernel
theorem dX2_init_26 : decode cX2_init 26 = .ok (.putfield 23, 3) := by decide +kernel
theorem dX2_init_29 : decode cX2_init 29 = .ok (.aload_n 0, 1) := by decide +kernel
theorem dX2_init_30 : decode cX2_init 30 = .ok (.bipush 20, 2) := by decide +kernel
theorem dX2_init_32 : decode cX2_init 32 = .ok (.putfield 27, 3) := by decide +kernel
theorem dX2_init_35 : decode cX2_init 35 = .ok (.return_, 1) := by decide +kernel
set_option maxRecDepth 20000 in
theorem ggX2_becomeLike_X2_gateAt : GoodIn wsX2_becomeLike wsX2_gateAt := goodIn_r _ [12, 7, 66, 67, 68, 69, 70, 71, 72, 73, 74] (by decide +kernel) (by decide +kernel)
set_option maxRecDepth 20000 in
theorem gX2_becomeLike_X2_gateAt : GoodIn wsX2_becomeLike (wsV RX2 46 RX2 yX2_gateAt wsX2_gateAt) := goodIn_app (goodIn_of _ (by decide +kernel)) ggX2_becomeLike_X2_gateAt
set_option maxRecDepth 20000 in
theorem ggX2_becomeLike_X2_copyStores : GoodIn wsX2_becomeLike wsX2_copyStores := goodIn_r _ [16, 17, 18, 19, 20, 21, 22, 23, 11, 24, 25, 26, 27, 28, 29, 30, 31, 32, 33, 34, 35, 36, 37, 66, 67, 68, 69, 70, 71, 72, 73, 74, 75, 76, 77] (by decide +kernel) (by decide +kernel)
set_option maxRecDepth 20000 in
theorem gX2_becomeLike_X2_copyStores : GoodIn wsX2_becomeLike (wsV RX2 50 RX2 yX2_copyStores wsX2_copyStores) := goodIn_app (goodIn_of _ (by decide +kernel)) ggX2_becomeLike_X2_copyStores
set_option maxRecDepth 20000 in
theorem ggX2_becomeLike_X2_copyBakers : GoodIn wsX2_becomeLike wsX2_copyBakers := goodIn_r _ [41, 42, 43, 44, 45, 46, 47, 48, 11, 49, 50, 51, 52, 53, 29, 30, 54, 55, 56, 57, 58, 59, 60, 61, 62, 63, 64, 65, 66, 67, 68, 69, 70, 71, 72, 73, 74, 78, 79, 80, 81, 82, 83, 84, 85] (by decide +kernel) (by decide +kernel)
set_option maxRecDepth 20000 in
theorem gX2_becomeLike_X2_copyBakers : GoodIn wsX2_becomeLike (wsV RX2 54 RX2 yX2_copyBakers wsX2_copyBakers) := goodIn_app (goodIn_of _ (by decide +kernel)) ggX2_becomeLike_X2_copyBakers
theorem dX2_becomeLike_0 : decode cX2_becomeLike 0 = .ok (.aload_n 0, 1) := by decide +kernel
theorem dX2_becomeLike_1 : decode cX2_becomeLike 1 = .ok (.aload_n 1, 1) := by decide +kernel
theorem dX2_becomeLike_2 : decode cX2_becomeLike 2 = .ok (.getfield 31, 3) := by decide +kernel
theorem dX2_becomeLike_5 : decode cX2_becomeLike 5 = .ok (.putfield 31, 3) := by decide +kernel
theorem dX2_becomeLike_8 : decode cX2_becomeLike 8 = .ok (.aload_n 0, 1) := by decide +kernel
theorem dX2_becomeLike_9 : decode cX2_becomeLike 9 = .ok (.aload_n 1, 1) := by decide +kernel
theorem dX2_becomeLike_10 : decode cX2_becomeLike 10 = .ok (.getfield 27, 3) := by decide +kernel
theorem dX2_becomeLike_13 : decode cX2_becomeLike 13 = .ok (.putfield 27, 3) := by decide +kernel
theorem dX2_becomeLike_16 : decode cX2_becomeLike 16 = .ok (.aload_n 0, 1) := by decide +kernel
theorem dX2_becomeLike_17 : decode cX2_becomeLike 17 = .ok (.aload_n 1, 1) := by decide +kernel
theorem dX2_becomeLike_18 : decode cX2_becomeLike 18 = .ok (.getfield 34, 3) := by decide +kernel
theorem dX2_becomeLike_21 : decode cX2_becomeLike 21 = .ok (.putfield 34, 3) := by decide +kernel
theorem dX2_becomeLike_24 : decode cX2_becomeLike 24 = .ok (.aload_n 0, 1) := by decide +kernel
theorem dX2_becomeLike_25 : decode cX2_becomeLike 25 = .ok (.aload_n 1, 1) := by decide +kernel
theorem dX2_becomeLike_26 : decode cX2_becomeLike 26 = .ok (.getfield 37, 3) := by decide +kernel
theorem dX2_becomeLike_29 : decode cX2_becomeLike 29 = .ok (.putfield 37, 3) := by decide +kernel
theorem dX2_becomeLike_32 : decode cX2_becomeLike 32 = .ok (.aload_n 0, 1) := by decide +kernel
theorem dX2_becomeLike_33 : decode cX2_becomeLike 33 = .ok (.aload_n 1, 1) := by decide +kernel
theorem dX2_becomeLike_34 : decode cX2_becomeLike 34 = .ok (.getfield 40, 3) := by decide +kernel
theorem dX2_becomeLike_37 : decode cX2_becomeLike 37 = .ok (.putfield 40, 3) := by decide +kernel
theorem dX2_becomeLike_40 : decode cX2_becomeLike 40 = .ok (.aload_n 0, 1) := by decide +kernel
theorem dX2_becomeLike_41 : decode cX2_becomeLike 41 = .ok (.aload_n 1, 1) := by decide +kernel
theorem dX2_becomeLike_42 : decode cX2_becomeLike 42 = .ok (.getfield 43, 3) := by decide +kernel
theorem dX2_becomeLike_45 : decode cX2_becomeLike 45 = .ok (.putfield 43, 3) := by decide +kernel
theorem dX2_becomeLike_48 : decode cX2_becomeLike 48 = .ok (.iconst 0, 1) := by decide +kernel
theorem dX2_becomeLike_49 : decode cX2_becomeLike 49 = .ok (.istore_n 2, 1) := by decide +kernel
theorem dX2_becomeLike_50 : decode cX2_becomeLike 50 = .ok (.iload_n 2, 1) := by decide +kernel
theorem dX2_becomeLike_51 : decode cX2_becomeLike 51 = .ok (.aload_n 0, 1) := by decide +kernel
theorem dX2_becomeLike_52 : decode cX2_becomeLike 52 = .ok (.getfield 9, 3) := by decide +kernel
theorem dX2_becomeLike_55 : decode cX2_becomeLike 55 = .ok (.arraylength, 1) := by decide +kernel
theorem dX2_becomeLike_56 : decode cX2_becomeLike 56 = .ok (.if_icmp .ge 20, 3) := by decide +kernel
theorem dX2_becomeLike_59 : decode cX2_becomeLike 59 = .ok (.aload_n 0, 1) := by decide +kernel
theorem dX2_becomeLike_60 : decode cX2_becomeLike 60 = .ok (.getfield 9, 3) := by decide +kernel
theorem dX2_becomeLike_63 : decode cX2_becomeLike 63 = .ok (.iload_n 2, 1) := by decide +kernel
theorem dX2_becomeLike_64 : decode cX2_becomeLike 64 = .ok (.aload_n 1, 1) := by decide +kernel
theorem dX2_becomeLike_65 : decode cX2_becomeLike 65 = .ok (.iload_n 2, 1) := by decide +kernel
theorem dX2_becomeLike_66 : decode cX2_becomeLike 66 = .ok (.invokevirtual 46, 3) := by decide +kernel
theorem dX2_becomeLike_69 : decode cX2_becomeLike 69 = .ok (.iastore, 1) := by decide +kernel
theorem dX2_becomeLike_70 : decode cX2_becomeLike 70 = .ok (.iinc 2 1, 3) := by decide +kernel
theorem dX2_becomeLike_73 : decode cX2_becomeLike 73 = .ok (.goto (-23), 3) := by decide +kernel
theorem dX2_becomeLike_76 : decode cX2_becomeLike 76 = .ok (.aload_n 0, 1) := by decide +kernel
theorem dX2_becomeLike_77 : decode cX2_becomeLike 77 = .ok (.aload_n 1, 1) := by decide +kernel
theorem dX2_becomeLike_78 : decode cX2_becomeLike 78 = .ok (.invokevirtual 50, 3) := by decide +kernel
theorem dX2_becomeLike_81 : decode cX2_becomeLike 81 = .ok (.aload_n 0, 1) := by decide +kernel
theorem dX2_becomeLike_82 : decode cX2_becomeLike 82 = .ok (.aload_n 1, 1) := by decide +kernel
theorem dX2_becomeLike_83 : decode cX2_becomeLike 83 = .ok (.invokevirtual 54, 3) := by decide +kernel
theorem dX2_becomeLike_86 : decode cX2_becomeLike 86 = .ok (.return_, 1) := by decide +kernel
set_option maxRecDepth 20000 in
theorem ggX2_copyStores_X2_storeAt : GoodIn wsX2_copyStores wsX2_storeAt := goodIn_r _ [9, 1, 23, 24, 25, 26, 27, 28, 29, 30, 31] (by decide +kernel) (by decide +kernel)
set_option maxRecDepth 20000 in
theorem gX2_copyStores_X2_storeAt : GoodIn wsX2_copyStores (wsV RX2 57 RX2 yX2_storeAt wsX2_storeAt) := goodIn_app (goodIn_of _ (by decide +kernel)) ggX2_copyStores_X2_storeAt
set_option maxRecDepth 20000 in
theorem ggX2_copyStores_X1_init : GoodIn wsX2_copyStores wsX1_init := goodIn_r _ [12, 13, 14, 15, 16, 17, 32, 33, 34] (by decide +kernel) (by decide +kernel)
set_option maxRecDepth 20000 in
theorem gX2_copyStores_X1_init : GoodIn wsX2_copyStores (wsX1_init) := ggX2_copyStores_X1_init
set_option maxRecDepth 20000 in
theorem ggX2_copyStores_X1_becomeLike : GoodIn wsX2_copyStores wsX1_becomeLike := goodIn_r _ [21, 16, 17, 22, 32, 33, 34] (by decide +kernel) (by decide +kernel)
set_option maxRecDepth 20000 in
theorem gX2_copyStores_X1_becomeLike : GoodIn wsX2_copyStores (wsV RX2 64 RX1 yX1_becomeLike wsX1_becomeLike) := goodIn_app (goodIn_of _ (by decide +kernel)) ggX2_copyStores_X1_becomeLike
theorem dX2_copyStores_0 : decode cX2_copyStores 0 = .ok (.iconst 0, 1) := by decide +kernel
theorem dX2_copyStores_1 : decode cX2_copyStores 1 = .ok (.istore_n 2, 1) := by decide +kernel
theorem dX2_copyStores_2 : decode cX2_copyStores 2 = .ok (.iload_n 2, 1) := by decide +kernel
theorem dX2_copyStores_3 : decode cX2_copyStores 3 = .ok (.aload_n 0, 1) := by decide +kernel
theorem dX2_copyStores_4 : decode cX2_copyStores 4 = .ok (.getfield 17, 3) := by decide +kernel
theorem dX2_copyStores_7 : decode cX2_copyStores 7 = .ok (.arraylength, 1) := by decide +kernel
theorem dX2_copyStores_8 : decode cX2_copyStores 8 = .ok (.if_icmp .ge 72, 3) := by decide +kernel
theorem dX2_copyStores_11 : decode cX2_copyStores 11 = .ok (.aload_n 1, 1) := by decide +kernel
theorem dX2_copyStores_12 : decode cX2_copyStores 12 = .ok (.iload_n 2, 1) := by decide +kernel
theorem dX2_copyStores_13 : decode cX2_copyStores 13 = .ok (.invokevirtual 57, 3) := by decide +kernel
theorem dX2_copyStores_16 : decode cX2_copyStores 16 = .ok (.astore_n 3, 1) := by decide +kernel
theorem dX2_copyStores_17 : decode cX2_copyStores 17 = .ok (.aload_n 3, 1) := by decide +kernel
theorem dX2_copyStores_18 : decode cX2_copyStores 18 = .ok (.ifnonnull 13, 3) := by decide +kernel
theorem dX2_copyStores_21 : decode cX2_copyStores 21 = .ok (.aload_n 0, 1) := by decide +kernel
theorem dX2_copyStores_22 : decode cX2_copyStores 22 = .ok (.getfield 17, 3) := by decide +kernel
theorem dX2_copyStores_25 : decode cX2_copyStores 25 = .ok (.iload_n 2, 1) := by decide +kernel
theorem dX2_copyStores_26 : decode cX2_copyStores 26 = .ok (.aconst_null, 1) := by decide +kernel
theorem dX2_copyStores_27 : decode cX2_copyStores 27 = .ok (.aastore, 1) := by decide +kernel
theorem dX2_copyStores_28 : decode cX2_copyStores 28 = .ok (.goto 46, 3) := by decide +kernel
theorem dX2_copyStores_31 : decode cX2_copyStores 31 = .ok (.aload_n 0, 1) := by decide +kernel
theorem dX2_copyStores_32 : decode cX2_copyStores 32 = .ok (.getfield 17, 3) := by decide +kernel
theorem dX2_copyStores_35 : decode cX2_copyStores 35 = .ok (.iload_n 2, 1) := by decide +kernel
theorem dX2_copyStores_36 : decode cX2_copyStores 36 = .ok (.aaload, 1) := by decide +kernel
theorem dX2_copyStores_37 : decode cX2_copyStores 37 = .ok (.ifnonnull 15, 3) := by decide +kernel
theorem dX2_copyStores_40 : decode cX2_copyStores 40 = .ok (.new 15, 3) := by decide +kernel
theorem dX2_copyStores_43 : decode cX2_copyStores 43 = .ok (.dup, 1) := by decide +kernel
theorem dX2_copyStores_44 : decode cX2_copyStores 44 = .ok (.iconst 0, 1) := by decide +kernel
theorem dX2_copyStores_45 : decode cX2_copyStores 45 = .ok (.iconst 0, 1) := by decide +kernel
theorem dX2_copyStores_46 : decode cX2_copyStores 46 = .ok (.invokespecial 61, 3) := by decide +kernel
theorem dX2_copyStores_49 : decode cX2_copyStores 49 = .ok (.goto 9, 3) := by decide +kernel
theorem dX2_copyStores_52 : decode cX2_copyStores 52 = .ok (.aload_n 0, 1) := by decide +kernel
theorem dX2_copyStores_53 : decode cX2_copyStores 53 = .ok (.getfield 17, 3) := by decide +kernel
theorem dX2_copyStores_56 : decode cX2_copyStores 56 = .ok (.iload_n 2, 1) := by decide +kernel
theorem dX2_copyStores_57 : decode cX2_copyStores 57 = .ok (.aaload, 1) := by decide +kernel
theorem dX2_copyStores_58 : decode cX2_copyStores 58 = .ok (.astore 4, 2) := by decide +kernel
theorem dX2_copyStores_60 : decode cX2_copyStores 60 = .ok (.aload 4, 2) := by decide +kernel
theorem dX2_copyStores_62 : decode cX2_copyStores 62 = .ok (.aload_n 3, 1) := by decide +kernel
theorem dX2_copyStores_63 : decode cX2_copyStores 63 = .ok (.invokevirtual 64, 3) := by decide +kernel
theorem dX2_copyStores_66 : decode cX2_copyStores 66 = .ok (.aload_n 0, 1) := by decide +kernel
theorem dX2_copyStores_67 : decode cX2_copyStores 67 = .ok (.getfield 17, 3) := by decide +kernel
theorem dX2_copyStores_70 : decode cX2_copyStores 70 = .ok (.iload_n 2, 1) := by decide +kernel
theorem dX2_copyStores_71 : decode cX2_copyStores 71 = .ok (.aload 4, 2) := by decide +kernel
theorem dX2_copyStores_73 : decode cX2_copyStores 73 = .ok (.aastore, 1) := by decide +kernel
theorem dX2_copyStores_74 : decode cX2_copyStores 74 = .ok (.iinc 2 1, 3) := by decide +kernel
theorem dX2_copyStores_77 : decode cX2_copyStores 77 = .ok (.goto (-75), 3) := by decide +kernel
theorem dX2_copyStores_80 : decode cX2_copyStores 80 = .ok (.return_, 1) := by decide +kernel
set_option maxRecDepth 20000 in
theorem ggX2_copyBakers_X2_bakerAt : GoodIn wsX2_copyBakers wsX2_bakerAt := goodIn_r _ [9, 1, 28, 29, 30, 31, 32, 33, 34, 35, 36] (by decide +kernel) (by decide +kernel)
set_option maxRecDepth 20000 in
theorem gX2_copyBakers_X2_bakerAt : GoodIn wsX2_copyBakers (wsV RX2 68 RX2 yX2_bakerAt wsX2_bakerAt) := goodIn_app (goodIn_of _ (by decide +kernel)) ggX2_copyBakers_X2_bakerAt
set_option maxRecDepth 20000 in
theorem ggX2_copyBakers_X0_init : GoodIn wsX2_copyBakers wsX0_init := goodIn_r _ [12, 13, 14, 15, 16, 17, 18, 19, 37, 38, 39, 40, 41, 42, 43, 44] (by decide +kernel) (by decide +kernel)
set_option maxRecDepth 20000 in
theorem gX2_copyBakers_X0_init : GoodIn wsX2_copyBakers (wsX0_init) := ggX2_copyBakers_X0_init
set_option maxRecDepth 20000 in
theorem ggX2_copyBakers_X0_becomeLike : GoodIn wsX2_copyBakers wsX0_becomeLike := goodIn_r _ [23, 16, 17, 19, 24, 18, 25, 26, 27, 37, 38, 39, 40, 41, 42, 43, 44] (by decide +kernel) (by decide +kernel)
set_option maxRecDepth 20000 in
theorem gX2_copyBakers_X0_becomeLike : GoodIn wsX2_copyBakers (wsV RX2 75 RX0 yX0_becomeLike wsX0_becomeLike) := goodIn_app (goodIn_of _ (by decide +kernel)) ggX2_copyBakers_X0_becomeLike
theorem dX2_copyBakers_0 : decode cX2_copyBakers 0 = .ok (.iconst 0, 1) := by decide +kernel
theorem dX2_copyBakers_1 : decode cX2_copyBakers 1 = .ok (.istore_n 2, 1) := by decide +kernel
theorem dX2_copyBakers_2 : decode cX2_copyBakers 2 = .ok (.iload_n 2, 1) := by decide +kernel
theorem dX2_copyBakers_3 : decode cX2_copyBakers 3 = .ok (.aload_n 0, 1) := by decide +kernel
theorem dX2_copyBakers_4 : decode cX2_copyBakers 4 = .ok (.getfield 23, 3) := by decide +kernel
theorem dX2_copyBakers_7 : decode cX2_copyBakers 7 = .ok (.arraylength, 1) := by decide +kernel
theorem dX2_copyBakers_8 : decode cX2_copyBakers 8 = .ok (.if_icmp .ge 74, 3) := by decide +kernel
theorem dX2_copyBakers_11 : decode cX2_copyBakers 11 = .ok (.aload_n 1, 1) := by decide +kernel
theorem dX2_copyBakers_12 : decode cX2_copyBakers 12 = .ok (.iload_n 2, 1) := by decide +kernel
theorem dX2_copyBakers_13 : decode cX2_copyBakers 13 = .ok (.invokevirtual 68, 3) := by decide +kernel
theorem dX2_copyBakers_16 : decode cX2_copyBakers 16 = .ok (.astore_n 3, 1) := by decide +kernel
theorem dX2_copyBakers_17 : decode cX2_copyBakers 17 = .ok (.aload_n 3, 1) := by decide +kernel
theorem dX2_copyBakers_18 : decode cX2_copyBakers 18 = .ok (.ifnonnull 13, 3) := by decide +kernel
theorem dX2_copyBakers_21 : decode cX2_copyBakers 21 = .ok (.aload_n 0, 1) := by decide +kernel
theorem dX2_copyBakers_22 : decode cX2_copyBakers 22 = .ok (.getfield 23, 3) := by decide +kernel
theorem dX2_copyBakers_25 : decode cX2_copyBakers 25 = .ok (.iload_n 2, 1) := by decide +kernel
theorem dX2_copyBakers_26 : decode cX2_copyBakers 26 = .ok (.aconst_null, 1) := by decide +kernel
theorem dX2_copyBakers_27 : decode cX2_copyBakers 27 = .ok (.aastore, 1) := by decide +kernel
theorem dX2_copyBakers_28 : decode cX2_copyBakers 28 = .ok (.goto 48, 3) := by decide +kernel
theorem dX2_copyBakers_31 : decode cX2_copyBakers 31 = .ok (.aload_n 0, 1) := by decide +kernel
theorem dX2_copyBakers_32 : decode cX2_copyBakers 32 = .ok (.getfield 23, 3) := by decide +kernel
theorem dX2_copyBakers_35 : decode cX2_copyBakers 35 = .ok (.iload_n 2, 1) := by decide +kernel
theorem dX2_copyBakers_36 : decode cX2_copyBakers 36 = .ok (.aaload, 1) := by decide +kernel
theorem dX2_copyBakers_37 : decode cX2_copyBakers 37 = .ok (.ifnonnull 17, 3) := by decide +kernel
theorem dX2_copyBakers_40 : decode cX2_copyBakers 40 = .ok (.new 21, 3) := by decide +kernel
theorem dX2_copyBakers_43 : decode cX2_copyBakers 43 = .ok (.dup, 1) := by decide +kernel
theorem dX2_copyBakers_44 : decode cX2_copyBakers 44 = .ok (.iconst 0, 1) := by decide +kernel
theorem dX2_copyBakers_45 : decode cX2_copyBakers 45 = .ok (.iconst 0, 1) := by decide +kernel
theorem dX2_copyBakers_46 : decode cX2_copyBakers 46 = .ok (.iconst 0, 1) := by decide +kernel
theorem dX2_copyBakers_47 : decode cX2_copyBakers 47 = .ok (.iconst 0, 1) := by decide +kernel
theorem dX2_copyBakers_48 : decode cX2_copyBakers 48 = .ok (.invokespecial 72, 3) := by decide +kernel
theorem dX2_copyBakers_51 : decode cX2_copyBakers 51 = .ok (.goto 9, 3) := by decide +kernel
theorem dX2_copyBakers_54 : decode cX2_copyBakers 54 = .ok (.aload_n 0, 1) := by decide +kernel
theorem dX2_copyBakers_55 : decode cX2_copyBakers 55 = .ok (.getfield 23, 3) := by decide +kernel
theorem dX2_copyBakers_58 : decode cX2_copyBakers 58 = .ok (.iload_n 2, 1) := by decide +kernel
theorem dX2_copyBakers_59 : decode cX2_copyBakers 59 = .ok (.aaload, 1) := by decide +kernel
theorem dX2_copyBakers_60 : decode cX2_copyBakers 60 = .ok (.astore 4, 2) := by decide +kernel
theorem dX2_copyBakers_62 : decode cX2_copyBakers 62 = .ok (.aload 4, 2) := by decide +kernel
theorem dX2_copyBakers_64 : decode cX2_copyBakers 64 = .ok (.aload_n 3, 1) := by decide +kernel
theorem dX2_copyBakers_65 : decode cX2_copyBakers 65 = .ok (.invokevirtual 75, 3) := by decide +kernel
theorem dX2_copyBakers_68 : decode cX2_copyBakers 68 = .ok (.aload_n 0, 1) := by decide +kernel
theorem dX2_copyBakers_69 : decode cX2_copyBakers 69 = .ok (.getfield 23, 3) := by decide +kernel
theorem dX2_copyBakers_72 : decode cX2_copyBakers 72 = .ok (.iload_n 2, 1) := by decide +kernel
theorem dX2_copyBakers_73 : decode cX2_copyBakers 73 = .ok (.aload 4, 2) := by decide +kernel
theorem dX2_copyBakers_75 : decode cX2_copyBakers 75 = .ok (.aastore, 1) := by decide +kernel
theorem dX2_copyBakers_76 : decode cX2_copyBakers 76 = .ok (.iinc 2 1, 3) := by decide +kernel
theorem dX2_copyBakers_79 : decode cX2_copyBakers 79 = .ok (.goto (-77), 3) := by decide +kernel
theorem dX2_copyBakers_82 : decode cX2_copyBakers 82 = .ok (.return_, 1) := by decide +kernel
theorem dX2_gateAt_0 : decode cX2_gateAt 0 = .ok (.iload_n 1, 1) := by decide +kernel
theorem dX2_gateAt_1 : decode cX2_gateAt 1 = .ok (.ifCond .lt 21, 3) := by decide +kernel
theorem dX2_gateAt_4 : decode cX2_gateAt 4 = .ok (.iload_n 1, 1) := by decide +kernel
theorem dX2_gateAt_5 : decode cX2_gateAt 5 = .ok (.aload_n 0, 1) := by decide +kernel
theorem dX2_gateAt_6 : decode cX2_gateAt 6 = .ok (.getfield 9, 3) := by decide +kernel
theorem dX2_gateAt_9 : decode cX2_gateAt 9 = .ok (.arraylength, 1) := by decide +kernel
theorem dX2_gateAt_10 : decode cX2_gateAt 10 = .ok (.if_icmp .ge 12, 3) := by decide +kernel
theorem dX2_gateAt_13 : decode cX2_gateAt 13 = .ok (.aload_n 0, 1) := by decide +kernel
theorem dX2_gateAt_14 : decode cX2_gateAt 14 = .ok (.getfield 9, 3) := by decide +kernel
theorem dX2_gateAt_17 : decode cX2_gateAt 17 = .ok (.iload_n 1, 1) := by decide +kernel
theorem dX2_gateAt_18 : decode cX2_gateAt 18 = .ok (.iaload, 1) := by decide +kernel
theorem dX2_gateAt_19 : decode cX2_gateAt 19 = .ok (.goto 4, 3) := by decide +kernel
theorem dX2_gateAt_22 : decode cX2_gateAt 22 = .ok (.iconst 0, 1) := by decide +kernel
theorem dX2_gateAt_23 : decode cX2_gateAt 23 = .ok (.ireturn, 1) := by decide +kernel
set_option maxRecDepth 20000 in
theorem ggX2_changeGate_X2_gateAt : GoodIn wsX2_changeGate wsX2_gateAt := goodIn_r _ [6, 1, 7, 8, 9, 10, 11, 12, 13, 14, 15] (by decide +kernel) (by decide +kernel)
set_option maxRecDepth 20000 in
theorem gX2_changeGate_X2_gateAt : GoodIn wsX2_changeGate (wsV RX2 46 RX2 yX2_gateAt wsX2_gateAt) := goodIn_app (goodIn_of _ (by decide +kernel)) ggX2_changeGate_X2_gateAt
theorem dX2_changeGate_0 : decode cX2_changeGate 0 = .ok (.aload_n 0, 1) := by decide +kernel
theorem dX2_changeGate_1 : decode cX2_changeGate 1 = .ok (.iload_n 1, 1) := by decide +kernel
theorem dX2_changeGate_2 : decode cX2_changeGate 2 = .ok (.invokevirtual 46, 3) := by decide +kernel
theorem dX2_changeGate_5 : decode cX2_changeGate 5 = .ok (.istore_n 3, 1) := by decide +kernel
theorem dX2_changeGate_6 : decode cX2_changeGate 6 = .ok (.iload_n 1, 1) := by decide +kernel
theorem dX2_changeGate_7 : decode cX2_changeGate 7 = .ok (.ifCond .lt 19, 3) := by decide +kernel
theorem dX2_changeGate_10 : decode cX2_changeGate 10 = .ok (.iload_n 1, 1) := by decide +kernel
theorem dX2_changeGate_11 : decode cX2_changeGate 11 = .ok (.aload_n 0, 1) := by decide +kernel
theorem dX2_changeGate_12 : decode cX2_changeGate 12 = .ok (.getfield 9, 3) := by decide +kernel
theorem dX2_changeGate_15 : decode cX2_changeGate 15 = .ok (.arraylength, 1) := by decide +kernel
theorem dX2_changeGate_16 : decode cX2_changeGate 16 = .ok (.if_icmp .ge 10, 3) := by decide +kernel
theorem dX2_changeGate_19 : decode cX2_changeGate 19 = .ok (.aload_n 0, 1) := by decide +kernel
theorem dX2_changeGate_20 : decode cX2_changeGate 20 = .ok (.getfield 9, 3) := by decide +kernel
theorem dX2_changeGate_23 : decode cX2_changeGate 23 = .ok (.iload_n 1, 1) := by decide +kernel
theorem dX2_changeGate_24 : decode cX2_changeGate 24 = .ok (.iload_n 2, 1) := by decide +kernel
theorem dX2_changeGate_25 : decode cX2_changeGate 25 = .ok (.iastore, 1) := by decide +kernel
theorem dX2_changeGate_26 : decode cX2_changeGate 26 = .ok (.iload_n 3, 1) := by decide +kernel
theorem dX2_changeGate_27 : decode cX2_changeGate 27 = .ok (.ireturn, 1) := by decide +kernel
theorem dX2_storeAt_0 : decode cX2_storeAt 0 = .ok (.iload_n 1, 1) := by decide +kernel
theorem dX2_storeAt_1 : decode cX2_storeAt 1 = .ok (.ifCond .lt 21, 3) := by decide +kernel
theorem dX2_storeAt_4 : decode cX2_storeAt 4 = .ok (.iload_n 1, 1) := by decide +kernel
theorem dX2_storeAt_5 : decode cX2_storeAt 5 = .ok (.aload_n 0, 1) := by decide +kernel
theorem dX2_storeAt_6 : decode cX2_storeAt 6 = .ok (.getfield 17, 3) := by decide +kernel
theorem dX2_storeAt_9 : decode cX2_storeAt 9 = .ok (.arraylength, 1) := by decide +kernel
theorem dX2_storeAt_10 : decode cX2_storeAt 10 = .ok (.if_icmp .ge 12, 3) := by decide +kernel
theorem dX2_storeAt_13 : decode cX2_storeAt 13 = .ok (.aload_n 0, 1) := by decide +kernel
theorem dX2_storeAt_14 : decode cX2_storeAt 14 = .ok (.getfield 17, 3) := by decide +kernel
theorem dX2_storeAt_17 : decode cX2_storeAt 17 = .ok (.iload_n 1, 1) := by decide +kernel
theorem dX2_storeAt_18 : decode cX2_storeAt 18 = .ok (.aaload, 1) := by decide +kernel
theorem dX2_storeAt_19 : decode cX2_storeAt 19 = .ok (.goto 4, 3) := by decide +kernel
theorem dX2_storeAt_22 : decode cX2_storeAt 22 = .ok (.aconst_null, 1) := by decide +kernel
theorem dX2_storeAt_23 : decode cX2_storeAt 23 = .ok (.areturn, 1) := by decide +kernel
theorem dX2_bakerAt_0 : decode cX2_bakerAt 0 = .ok (.iload_n 1, 1) := by decide +kernel
theorem dX2_bakerAt_1 : decode cX2_bakerAt 1 = .ok (.ifCond .lt 21, 3) := by decide +kernel
theorem dX2_bakerAt_4 : decode cX2_bakerAt 4 = .ok (.iload_n 1, 1) := by decide +kernel
theorem dX2_bakerAt_5 : decode cX2_bakerAt 5 = .ok (.aload_n 0, 1) := by decide +kernel
theorem dX2_bakerAt_6 : decode cX2_bakerAt 6 = .ok (.getfield 23, 3) := by decide +kernel
theorem dX2_bakerAt_9 : decode cX2_bakerAt 9 = .ok (.arraylength, 1) := by decide +kernel
theorem dX2_bakerAt_10 : decode cX2_bakerAt 10 = .ok (.if_icmp .ge 12, 3) := by decide +kernel
theorem dX2_bakerAt_13 : decode cX2_bakerAt 13 = .ok (.aload_n 0, 1) := by decide +kernel
theorem dX2_bakerAt_14 : decode cX2_bakerAt 14 = .ok (.getfield 23, 3) := by decide +kernel
theorem dX2_bakerAt_17 : decode cX2_bakerAt 17 = .ok (.iload_n 1, 1) := by decide +kernel
theorem dX2_bakerAt_18 : decode cX2_bakerAt 18 = .ok (.aaload, 1) := by decide +kernel
theorem dX2_bakerAt_19 : decode cX2_bakerAt 19 = .ok (.goto 4, 3) := by decide +kernel
theorem dX2_bakerAt_22 : decode cX2_bakerAt 22 = .ok (.aconst_null, 1) := by decide +kernel
theorem dX2_bakerAt_23 : decode cX2_bakerAt 23 = .ok (.areturn, 1) := by decide +kernel
set_option maxRecDepth 20000 in
theorem ggX2_addStore_X1_init : GoodIn wsX2_addStore wsX1_init := goodIn_r _ [7, 8, 9, 10, 11, 12, 22, 23, 24] (by decide +kernel) (by decide +kernel)
set_option maxRecDepth 20000 in
theorem gX2_addStore_X1_init : GoodIn wsX2_addStore (wsX1_init) := ggX2_addStore_X1_init
theorem dX2_addStore_0 : decode cX2_addStore 0 = .ok (.iconst 0, 1) := by decide +kernel
theorem dX2_addStore_1 : decode cX2_addStore 1 = .ok (.istore_n 3, 1) := by decide +kernel
theorem dX2_addStore_2 : decode cX2_addStore 2 = .ok (.iload_n 3, 1) := by decide +kernel
theorem dX2_addStore_3 : decode cX2_addStore 3 = .ok (.aload_n 0, 1) := by decide +kernel
theorem dX2_addStore_4 : decode cX2_addStore 4 = .ok (.getfield 17, 3) := by decide +kernel
theorem dX2_addStore_7 : decode cX2_addStore 7 = .ok (.arraylength, 1) := by decide +kernel
theorem dX2_addStore_8 : decode cX2_addStore 8 = .ok (.if_icmp .ge 35, 3) := by decide +kernel
theorem dX2_addStore_11 : decode cX2_addStore 11 = .ok (.aload_n 0, 1) := by decide +kernel
theorem dX2_addStore_12 : decode cX2_addStore 12 = .ok (.getfield 17, 3) := by decide +kernel
theorem dX2_addStore_15 : decode cX2_addStore 15 = .ok (.iload_n 3, 1) := by decide +kernel
theorem dX2_addStore_16 : decode cX2_addStore 16 = .ok (.aaload, 1) := by decide +kernel
theorem dX2_addStore_17 : decode cX2_addStore 17 = .ok (.ifnonnull 20, 3) := by decide +kernel
theorem dX2_addStore_20 : decode cX2_addStore 20 = .ok (.aload_n 0, 1) := by decide +kernel
theorem dX2_addStore_21 : decode cX2_addStore 21 = .ok (.getfield 17, 3) := by decide +kernel
theorem dX2_addStore_24 : decode cX2_addStore 24 = .ok (.iload_n 3, 1) := by decide +kernel
theorem dX2_addStore_25 : decode cX2_addStore 25 = .ok (.new 15, 3) := by decide +kernel
theorem dX2_addStore_28 : decode cX2_addStore 28 = .ok (.dup, 1) := by decide +kernel
theorem dX2_addStore_29 : decode cX2_addStore 29 = .ok (.iload_n 1, 1) := by decide +kernel
theorem dX2_addStore_30 : decode cX2_addStore 30 = .ok (.iload_n 2, 1) := by decide +kernel
theorem dX2_addStore_31 : decode cX2_addStore 31 = .ok (.invokespecial 61, 3) := by decide +kernel
theorem dX2_addStore_34 : decode cX2_addStore 34 = .ok (.aastore, 1) := by decide +kernel
theorem dX2_addStore_35 : decode cX2_addStore 35 = .ok (.iload_n 3, 1) := by decide +kernel
theorem dX2_addStore_36 : decode cX2_addStore 36 = .ok (.ireturn, 1) := by decide +kernel
theorem dX2_addStore_37 : decode cX2_addStore 37 = .ok (.iinc 3 1, 3) := by decide +kernel
theorem dX2_addStore_40 : decode cX2_addStore 40 = .ok (.goto (-38), 3) := by decide +kernel
theorem dX2_addStore_43 : decode cX2_addStore 43 = .ok (.iconst (-1), 1) := by decide +kernel
theorem dX2_addStore_44 : decode cX2_addStore 44 = .ok (.ireturn, 1) := by decide +kernel
set_option maxRecDepth 20000 in
theorem ggX2_addBaker_X0_init : GoodIn wsX2_addBaker wsX0_init := goodIn_r _ [7, 8, 9, 10, 11, 12, 13, 14, 24, 25, 26, 27, 28, 29, 30, 31] (by decide +kernel) (by decide +kernel)
set_option maxRecDepth 20000 in
theorem gX2_addBaker_X0_init : GoodIn wsX2_addBaker (wsX0_init) := ggX2_addBaker_X0_init
theorem dX2_addBaker_0 : decode cX2_addBaker 0 = .ok (.iconst 0, 1) := by decide +kernel
theorem dX2_addBaker_1 : decode cX2_addBaker 1 = .ok (.istore 5, 2) := by decide +kernel
theorem dX2_addBaker_3 : decode cX2_addBaker 3 = .ok (.iload 5, 2) := by decide +kernel
theorem dX2_addBaker_5 : decode cX2_addBaker 5 = .ok (.aload_n 0, 1) := by decide +kernel
theorem dX2_addBaker_6 : decode cX2_addBaker 6 = .ok (.getfield 23, 3) := by decide +kernel
theorem dX2_addBaker_9 : decode cX2_addBaker 9 = .ok (.arraylength, 1) := by decide +kernel
theorem dX2_addBaker_10 : decode cX2_addBaker 10 = .ok (.if_icmp .ge 41, 3) := by decide +kernel
theorem dX2_addBaker_13 : decode cX2_addBaker 13 = .ok (.aload_n 0, 1) := by decide +kernel
theorem dX2_addBaker_14 : decode cX2_addBaker 14 = .ok (.getfield 23, 3) := by decide +kernel
theorem dX2_addBaker_17 : decode cX2_addBaker 17 = .ok (.iload 5, 2) := by decide +kernel
theorem dX2_addBaker_19 : decode cX2_addBaker 19 = .ok (.aaload, 1) := by decide +kernel
theorem dX2_addBaker_20 : decode cX2_addBaker 20 = .ok (.ifnonnull 25, 3) := by decide +kernel
theorem dX2_addBaker_23 : decode cX2_addBaker 23 = .ok (.aload_n 0, 1) := by decide +kernel
theorem dX2_addBaker_24 : decode cX2_addBaker 24 = .ok (.getfield 23, 3) := by decide +kernel
theorem dX2_addBaker_27 : decode cX2_addBaker 27 = .ok (.iload 5, 2) := by decide +kernel
theorem dX2_addBaker_29 : decode cX2_addBaker 29 = .ok (.new 21, 3) := by decide +kernel
theorem dX2_addBaker_32 : decode cX2_addBaker 32 = .ok (.dup, 1) := by decide +kernel
theorem dX2_addBaker_33 : decode cX2_addBaker 33 = .ok (.iload_n 1, 1) := by decide +kernel
theorem dX2_addBaker_34 : decode cX2_addBaker 34 = .ok (.iload_n 2, 1) := by decide +kernel
theorem dX2_addBaker_35 : decode cX2_addBaker 35 = .ok (.iload_n 3, 1) := by decide +kernel
theorem dX2_addBaker_36 : decode cX2_addBaker 36 = .ok (.iload 4, 2) := by decide +kernel
theorem dX2_addBaker_38 : decode cX2_addBaker 38 = .ok (.invokespecial 72, 3) := by decide +kernel
theorem dX2_addBaker_41 : decode cX2_addBaker 41 = .ok (.aastore, 1) := by decide +kernel
theorem dX2_addBaker_42 : decode cX2_addBaker 42 = .ok (.iload 5, 2) := by decide +kernel
theorem dX2_addBaker_44 : decode cX2_addBaker 44 = .ok (.ireturn, 1) := by decide +kernel
theorem dX2_addBaker_45 : decode cX2_addBaker 45 = .ok (.iinc 5 1, 3) := by decide +kernel
theorem dX2_addBaker_48 : decode cX2_addBaker 48 = .ok (.goto (-45), 3) := by decide +kernel
theorem dX2_addBaker_51 : decode cX2_addBaker 51 = .ok (.iconst (-1), 1) := by decide +kernel
theorem dX2_addBaker_52 : decode cX2_addBaker 52 = .ok (.ireturn, 1) := by decide +kernel
theorem dX2_bakerWithMark_0 : decode cX2_bakerWithMark 0 = .ok (.iconst 0, 1) := by decide +kernel
theorem dX2_bakerWithMark_1 : decode cX2_bakerWithMark 1 = .ok (.istore_n 2, 1) := by decide +kernel
theorem dX2_bakerWithMark_2 : decode cX2_bakerWithMark 2 = .ok (.iload_n 2, 1) := by decide +kernel
theorem dX2_bakerWithMark_3 : decode cX2_bakerWithMark 3 = .ok (.aload_n 0, 1) := by decide +kernel
theorem dX2_bakerWithMark_4 : decode cX2_bakerWithMark 4 = .ok (.getfield 23, 3) := by decide +kernel
theorem dX2_bakerWithMark_7 : decode cX2_bakerWithMark 7 = .ok (.arraylength, 1) := by decide +kernel
theorem dX2_bakerWithMark_8 : decode cX2_bakerWithMark 8 = .ok (.if_icmp .ge 30, 3) := by decide +kernel
theorem dX2_bakerWithMark_11 : decode cX2_bakerWithMark 11 = .ok (.aload_n 0, 1) := by decide +kernel
theorem dX2_bakerWithMark_12 : decode cX2_bakerWithMark 12 = .ok (.getfield 23, 3) := by decide +kernel
theorem dX2_bakerWithMark_15 : decode cX2_bakerWithMark 15 = .ok (.iload_n 2, 1) := by decide +kernel
theorem dX2_bakerWithMark_16 : decode cX2_bakerWithMark 16 = .ok (.aaload, 1) := by decide +kernel
theorem dX2_bakerWithMark_17 : decode cX2_bakerWithMark 17 = .ok (.astore_n 3, 1) := by decide +kernel
theorem dX2_bakerWithMark_18 : decode cX2_bakerWithMark 18 = .ok (.aload_n 3, 1) := by decide +kernel
theorem dX2_bakerWithMark_19 : decode cX2_bakerWithMark 19 = .ok (.ifnull 13, 3) := by decide +kernel
theorem dX2_bakerWithMark_22 : decode cX2_bakerWithMark 22 = .ok (.aload_n 3, 1) := by decide +kernel
theorem dX2_bakerWithMark_23 : decode cX2_bakerWithMark 23 = .ok (.getfield 78, 3) := by decide +kernel
theorem dX2_bakerWithMark_26 : decode cX2_bakerWithMark 26 = .ok (.iload_n 1, 1) := by decide +kernel
theorem dX2_bakerWithMark_27 : decode cX2_bakerWithMark 27 = .ok (.if_icmp .ne 5, 3) := by decide +kernel
theorem dX2_bakerWithMark_30 : decode cX2_bakerWithMark 30 = .ok (.iload_n 2, 1) := by decide +kernel
theorem dX2_bakerWithMark_31 : decode cX2_bakerWithMark 31 = .ok (.ireturn, 1) := by decide +kernel
theorem dX2_bakerWithMark_32 : decode cX2_bakerWithMark 32 = .ok (.iinc 2 1, 3) := by decide +kernel
theorem dX2_bakerWithMark_35 : decode cX2_bakerWithMark 35 = .ok (.goto (-33), 3) := by decide +kernel
theorem dX2_bakerWithMark_38 : decode cX2_bakerWithMark 38 = .ok (.iconst (-1), 1) := by decide +kernel
theorem dX2_bakerWithMark_39 : decode cX2_bakerWithMark 39 = .ok (.ireturn, 1) := by decide +kernel
set_option maxRecDepth 20000 in
theorem ggX2_goThrough_X2_goThroughHour : GoodIn wsX2_goThrough wsX2_goThroughHour := goodIn_r _ [5, 6, 7, 8, 9, 4, 10, 11, 12, 13, 14, 15, 16, 17, 18, 19, 20, 21, 22, 23, 24, 25, 26, 27, 28, 29, 30, 31, 32, 33, 34, 35, 36, 37, 38, 39, 40, 41, 42, 43, 44, 45, 46, 47, 48, 49, 50, 51, 52, 53, 54, 55, 56, 57, 58, 59, 60, 61, 62, 63, 64, 65, 66, 67, 68, 69, 70, 71, 72, 73, 74, 75, 76, 77, 78, 79, 80, 81, 82, 83, 84, 85, 86, 87, 88, 89, 90, 91, 92, 93, 94, 95, 96, 97, 98, 99, 100, 101, 102, 103, 104, 105, 106, 107, 108, 109, 110, 111, 112, 113, 114, 115, 116, 117, 118, 119] (by decide +kernel) (by decide +kernel)
set_option maxRecDepth 20000 in
theorem gX2_goThrough_X2_goThroughHour : GoodIn wsX2_goThrough (wsV RX2 81 RX2 yX2_goThroughHour wsX2_goThroughHour) := goodIn_app (goodIn_of _ (by decide +kernel)) ggX2_goThrough_X2_goThroughHour
theorem dX2_goThrough_0 : decode cX2_goThrough 0 = .ok (.iconst 0, 1) := by decide +kernel
theorem dX2_goThrough_1 : decode cX2_goThrough 1 = .ok (.istore_n 2, 1) := by decide +kernel
theorem dX2_goThrough_2 : decode cX2_goThrough 2 = .ok (.iconst 0, 1) := by decide +kernel
theorem dX2_goThrough_3 : decode cX2_goThrough 3 = .ok (.istore_n 3, 1) := by decide +kernel
theorem dX2_goThrough_4 : decode cX2_goThrough 4 = .ok (.iload_n 3, 1) := by decide +kernel
theorem dX2_goThrough_5 : decode cX2_goThrough 5 = .ok (.iload_n 1, 1) := by decide +kernel
theorem dX2_goThrough_6 : decode cX2_goThrough 6 = .ok (.if_icmp .ge 16, 3) := by decide +kernel
theorem dX2_goThrough_9 : decode cX2_goThrough 9 = .ok (.iload_n 2, 1) := by decide +kernel
theorem dX2_goThrough_10 : decode cX2_goThrough 10 = .ok (.aload_n 0, 1) := by decide +kernel
theorem dX2_goThrough_11 : decode cX2_goThrough 11 = .ok (.invokevirtual 81, 3) := by decide +kernel
theorem dX2_goThrough_14 : decode cX2_goThrough 14 = .ok (.iadd, 1) := by decide +kernel
theorem dX2_goThrough_15 : decode cX2_goThrough 15 = .ok (.istore_n 2, 1) := by decide +kernel
theorem dX2_goThrough_16 : decode cX2_goThrough 16 = .ok (.iinc 3 1, 3) := by decide +kernel
theorem dX2_goThrough_19 : decode cX2_goThrough 19 = .ok (.goto (-15), 3) := by decide +kernel
theorem dX2_goThrough_22 : decode cX2_goThrough 22 = .ok (.iload_n 2, 1) := by decide +kernel
theorem dX2_goThrough_23 : decode cX2_goThrough 23 = .ok (.ireturn, 1) := by decide +kernel
set_option maxRecDepth 20000 in
theorem ggX2_goThroughHour_X2_hourOfDay : GoodIn wsX2_goThroughHour wsX2_hourOfDay := goodIn_r _ [6, 1, 7, 8, 9, 10, 96, 97, 98, 99, 100, 101, 102, 103, 104] (by decide +kernel) (by decide +kernel)
set_option maxRecDepth 20000 in
theorem gX2_goThroughHour_X2_hourOfDay : GoodIn wsX2_goThroughHour (wsV RX2 85 RX2 yX2_hourOfDay wsX2_hourOfDay) := goodIn_app (goodIn_of _ (by decide +kernel)) ggX2_goThroughHour_X2_hourOfDay
set_option maxRecDepth 20000 in
theorem ggX2_goThroughHour_X2_gateAt : GoodIn wsX2_goThroughHour wsX2_gateAt := goodIn_r _ [14, 15, 96, 97, 98, 99, 100, 101, 102, 103, 104] (by decide +kernel) (by decide +kernel)
set_option maxRecDepth 20000 in
theorem gX2_goThroughHour_X2_gateAt : GoodIn wsX2_goThroughHour (wsV RX2 46 RX2 yX2_gateAt wsX2_gateAt) := goodIn_app (goodIn_of _ (by decide +kernel)) ggX2_goThroughHour_X2_gateAt
set_option maxRecDepth 20000 in
theorem ggX2_goThroughHour_X2_unloadCarts : GoodIn wsX2_goThroughHour wsX2_unloadCarts := goodIn_r _ [19, 20, 21, 22, 23, 5, 24, 25, 26, 27, 28, 29, 30, 31, 32, 33, 34, 35, 36, 96, 97, 98, 99, 100, 101, 102, 103, 104, 105, 106, 107] (by decide +kernel) (by decide +kernel)
set_option maxRecDepth 20000 in
theorem gX2_goThroughHour_X2_unloadCarts : GoodIn wsX2_goThroughHour (wsV RX2 88 RX2 yX2_unloadCarts wsX2_unloadCarts) := goodIn_app (goodIn_of _ (by decide +kernel)) ggX2_goThroughHour_X2_unloadCarts
set_option maxRecDepth 20000 in
theorem ggX2_goThroughHour_X2_dealRations : GoodIn wsX2_goThroughHour wsX2_dealRations := goodIn_r _ [40, 41, 42, 43, 44, 45, 46, 47, 48, 5, 49, 25, 50, 51, 52, 30, 53, 32, 33, 34, 35, 36, 96, 97, 98, 99, 100, 101, 102, 103, 104, 108, 109, 110, 111, 112, 113, 114, 115, 105, 106, 107] (by decide +kernel) (by decide +kernel)
set_option maxRecDepth 20000 in
theorem gX2_goThroughHour_X2_dealRations : GoodIn wsX2_goThroughHour (wsV RX2 92 RX2 yX2_dealRations wsX2_dealRations) := goodIn_app (goodIn_of _ (by decide +kernel)) ggX2_goThroughHour_X2_dealRations
set_option maxRecDepth 20000 in
theorem ggX2_goThroughHour_X2_feedAllWeevils : GoodIn wsX2_goThroughHour wsX2_feedAllWeevils := goodIn_r _ [57, 25, 58, 59, 60, 30, 61, 62, 63, 32, 33, 34, 35, 36, 64, 51, 52, 53, 96, 97, 98, 99, 100, 101, 102, 103, 104, 105, 106, 107] (by decide +kernel) (by decide +kernel)
set_option maxRecDepth 20000 in
theorem gX2_goThroughHour_X2_feedAllWeevils : GoodIn wsX2_goThroughHour (wsV RX2 95 RX2 yX2_feedAllWeevils wsX2_feedAllWeevils) := goodIn_app (goodIn_of _ (by decide +kernel)) ggX2_goThroughHour_X2_feedAllWeevils
set_option maxRecDepth 20000 in
theorem ggX2_goThroughHour_X2_bakeAll : GoodIn wsX2_goThroughHour wsX2_bakeAll := goodIn_r _ [68, 41, 69, 70, 71, 72, 73, 74, 75, 76, 77, 34, 35, 36, 78, 96, 97, 98, 99, 100, 101, 102, 103, 104, 108, 109, 110, 111, 112, 113, 114, 115] (by decide +kernel) (by decide +kernel)
set_option maxRecDepth 20000 in
theorem gX2_goThroughHour_X2_bakeAll : GoodIn wsX2_goThroughHour (wsV RX2 98 RX2 yX2_bakeAll wsX2_bakeAll) := goodIn_app (goodIn_of _ (by decide +kernel)) ggX2_goThroughHour_X2_bakeAll
set_option maxRecDepth 20000 in
theorem ggX2_goThroughHour_X2_sellAtNoon : GoodIn wsX2_goThroughHour wsX2_sellAtNoon := goodIn_r _ [82, 83, 41, 84, 85, 86, 87, 88, 89, 72, 90, 78, 77, 34, 35, 36, 91, 92, 93, 94, 95, 75, 96, 97, 98, 99, 100, 101, 102, 103, 104, 108, 109, 110, 111, 112, 113, 114, 115] (by decide +kernel) (by decide +kernel)
set_option maxRecDepth 20000 in
theorem gX2_goThroughHour_X2_sellAtNoon : GoodIn wsX2_goThroughHour (wsV RX2 101 RX2 yX2_sellAtNoon wsX2_sellAtNoon) := goodIn_app (goodIn_of _ (by decide +kernel)) ggX2_goThroughHour_X2_sellAtNoon
theorem dX2_goThroughHour_0 : decode cX2_goThroughHour 0 = .ok (.aload_n 0, 1) := by decide +kernel
theorem dX2_goThroughHour_1 : decode cX2_goThroughHour 1 = .ok (.invokevirtual 85, 3) := by decide +kernel
theorem dX2_goThroughHour_4 : decode cX2_goThroughHour 4 = .ok (.istore_n 1, 1) := by decide +kernel
theorem dX2_goThroughHour_5 : decode cX2_goThroughHour 5 = .ok (.aload_n 0, 1) := by decide +kernel
theorem dX2_goThroughHour_6 : decode cX2_goThroughHour 6 = .ok (.aload_n 0, 1) := by decide +kernel
theorem dX2_goThroughHour_7 : decode cX2_goThroughHour 7 = .ok (.iload_n 1, 1) := by decide +kernel
theorem dX2_goThroughHour_8 : decode cX2_goThroughHour 8 = .ok (.invokevirtual 46, 3) := by decide +kernel
theorem dX2_goThroughHour_11 : decode cX2_goThroughHour 11 = .ok (.invokevirtual 88, 3) := by decide +kernel
theorem dX2_goThroughHour_14 : decode cX2_goThroughHour 14 = .ok (.iload_n 1, 1) := by decide +kernel
theorem dX2_goThroughHour_15 : decode cX2_goThroughHour 15 = .ok (.ifCond .ne 11, 3) := by decide +kernel
theorem dX2_goThroughHour_18 : decode cX2_goThroughHour 18 = .ok (.aload_n 0, 1) := by decide +kernel
theorem dX2_goThroughHour_19 : decode cX2_goThroughHour 19 = .ok (.invokevirtual 92, 3) := by decide +kernel
theorem dX2_goThroughHour_22 : decode cX2_goThroughHour 22 = .ok (.aload_n 0, 1) := by decide +kernel
theorem dX2_goThroughHour_23 : decode cX2_goThroughHour 23 = .ok (.invokevirtual 95, 3) := by decide +kernel
theorem dX2_goThroughHour_26 : decode cX2_goThroughHour 26 = .ok (.aload_n 0, 1) := by decide +kernel
theorem dX2_goThroughHour_27 : decode cX2_goThroughHour 27 = .ok (.invokevirtual 98, 3) := by decide +kernel
theorem dX2_goThroughHour_30 : decode cX2_goThroughHour 30 = .ok (.iload_n 1, 1) := by decide +kernel
theorem dX2_goThroughHour_31 : decode cX2_goThroughHour 31 = .ok (.bipush 12, 2) := by decide +kernel
theorem dX2_goThroughHour_33 : decode cX2_goThroughHour 33 = .ok (.if_icmp .ne 10, 3) := by decide +kernel
theorem dX2_goThroughHour_36 : decode cX2_goThroughHour 36 = .ok (.aload_n 0, 1) := by decide +kernel
theorem dX2_goThroughHour_37 : decode cX2_goThroughHour 37 = .ok (.invokevirtual 101, 3) := by decide +kernel
theorem dX2_goThroughHour_40 : decode cX2_goThroughHour 40 = .ok (.goto 4, 3) := by decide +kernel
theorem dX2_goThroughHour_43 : decode cX2_goThroughHour 43 = .ok (.iconst 0, 1) := by decide +kernel
theorem dX2_goThroughHour_44 : decode cX2_goThroughHour 44 = .ok (.istore_n 2, 1) := by decide +kernel
theorem dX2_goThroughHour_45 : decode cX2_goThroughHour 45 = .ok (.aload_n 0, 1) := by decide +kernel
theorem dX2_goThroughHour_46 : decode cX2_goThroughHour 46 = .ok (.dup, 1) := by decide +kernel
theorem dX2_goThroughHour_47 : decode cX2_goThroughHour 47 = .ok (.getfield 31, 3) := by decide +kernel
theorem dX2_goThroughHour_50 : decode cX2_goThroughHour 50 = .ok (.iconst 1, 1) := by decide +kernel
theorem dX2_goThroughHour_51 : decode cX2_goThroughHour 51 = .ok (.iadd, 1) := by decide +kernel
theorem dX2_goThroughHour_52 : decode cX2_goThroughHour 52 = .ok (.putfield 31, 3) := by decide +kernel
theorem dX2_goThroughHour_55 : decode cX2_goThroughHour 55 = .ok (.iload_n 2, 1) := by decide +kernel
theorem dX2_goThroughHour_56 : decode cX2_goThroughHour 56 = .ok (.ireturn, 1) := by decide +kernel
set_option maxRecDepth 20000 in
theorem ggX2_hourOfDay_J9_floorMod_7cf53 : GoodIn wsX2_hourOfDay wsJ9_floorMod_7cf53 := goodIn_r _ [5] (by decide +kernel) (by decide +kernel)
set_option maxRecDepth 20000 in
theorem gX2_hourOfDay_J9_floorMod_7cf53 : GoodIn wsX2_hourOfDay (va_wsS RX2 104 yJ9_floorMod_7cf53 wsJ9_floorMod_7cf53) := goodIn_app (goodIn_of _ (by decide +kernel)) ggX2_hourOfDay_J9_floorMod_7cf53
theorem dX2_hourOfDay_0 : decode cX2_hourOfDay 0 = .ok (.aload_n 0, 1) := by decide +kernel
theorem dX2_hourOfDay_1 : decode cX2_hourOfDay 1 = .ok (.getfield 31, 3) := by decide +kernel
theorem dX2_hourOfDay_4 : decode cX2_hourOfDay 4 = .ok (.bipush 24, 2) := by decide +kernel
theorem dX2_hourOfDay_6 : decode cX2_hourOfDay 6 = .ok (.invokestatic 104, 3) := by decide +kernel
theorem dX2_hourOfDay_9 : decode cX2_hourOfDay 9 = .ok (.ireturn, 1) := by decide +kernel
set_option maxRecDepth 20000 in
theorem ggX2_unloadCarts_X2_emptiestStore : GoodIn wsX2_unloadCarts wsX2_emptiestStore := goodIn_r _ [6, 7, 8, 19, 20, 21, 22, 23, 24, 25, 26, 27, 28, 29, 30] (by decide +kernel) (by decide +kernel)
set_option maxRecDepth 20000 in
theorem gX2_unloadCarts_X2_emptiestStore : GoodIn wsX2_unloadCarts (wsV RX2 110 RX2 yX2_emptiestStore wsX2_emptiestStore) := goodIn_app (goodIn_of _ (by decide +kernel)) ggX2_unloadCarts_X2_emptiestStore
set_option maxRecDepth 20000 in
theorem ggX2_unloadCarts_X1_takeIn : GoodIn wsX2_unloadCarts wsX1_takeIn := goodIn_r _ [13, 14, 15, 16, 17, 18, 28, 29, 30] (by decide +kernel) (by decide +kernel)
set_option maxRecDepth 20000 in
theorem gX2_unloadCarts_X1_takeIn : GoodIn wsX2_unloadCarts (wsV RX2 114 RX1 yX1_takeIn wsX1_takeIn) := goodIn_app (goodIn_of _ (by decide +kernel)) ggX2_unloadCarts_X1_takeIn
theorem dX2_unloadCarts_0 : decode cX2_unloadCarts 0 = .ok (.aload_n 0, 1) := by decide +kernel
theorem dX2_unloadCarts_1 : decode cX2_unloadCarts 1 = .ok (.invokevirtual 110, 3) := by decide +kernel
theorem dX2_unloadCarts_4 : decode cX2_unloadCarts 4 = .ok (.astore_n 2, 1) := by decide +kernel
theorem dX2_unloadCarts_5 : decode cX2_unloadCarts 5 = .ok (.aload_n 2, 1) := by decide +kernel
theorem dX2_unloadCarts_6 : decode cX2_unloadCarts 6 = .ok (.ifnull 17, 3) := by decide +kernel
theorem dX2_unloadCarts_9 : decode cX2_unloadCarts 9 = .ok (.aload_n 0, 1) := by decide +kernel
theorem dX2_unloadCarts_10 : decode cX2_unloadCarts 10 = .ok (.dup, 1) := by decide +kernel
theorem dX2_unloadCarts_11 : decode cX2_unloadCarts 11 = .ok (.getfield 43, 3) := by decide +kernel
theorem dX2_unloadCarts_14 : decode cX2_unloadCarts 14 = .ok (.aload_n 2, 1) := by decide +kernel
theorem dX2_unloadCarts_15 : decode cX2_unloadCarts 15 = .ok (.iload_n 1, 1) := by decide +kernel
theorem dX2_unloadCarts_16 : decode cX2_unloadCarts 16 = .ok (.invokevirtual 114, 3) := by decide +kernel
theorem dX2_unloadCarts_19 : decode cX2_unloadCarts 19 = .ok (.iadd, 1) := by decide +kernel
theorem dX2_unloadCarts_20 : decode cX2_unloadCarts 20 = .ok (.putfield 43, 3) := by decide +kernel
theorem dX2_unloadCarts_23 : decode cX2_unloadCarts 23 = .ok (.return_, 1) := by decide +kernel
theorem dX2_emptiestStore_0 : decode cX2_emptiestStore 0 = .ok (.aconst_null, 1) := by decide +kernel
theorem dX2_emptiestStore_1 : decode cX2_emptiestStore 1 = .ok (.astore_n 1, 1) := by decide +kernel
theorem dX2_emptiestStore_2 : decode cX2_emptiestStore 2 = .ok (.aload_n 0, 1) := by decide +kernel
theorem dX2_emptiestStore_3 : decode cX2_emptiestStore 3 = .ok (.getfield 17, 3) := by decide +kernel
theorem dX2_emptiestStore_6 : decode cX2_emptiestStore 6 = .ok (.astore_n 2, 1) := by decide +kernel
theorem dX2_emptiestStore_7 : decode cX2_emptiestStore 7 = .ok (.aload_n 2, 1) := by decide +kernel
theorem dX2_emptiestStore_8 : decode cX2_emptiestStore 8 = .ok (.arraylength, 1) := by decide +kernel
theorem dX2_emptiestStore_9 : decode cX2_emptiestStore 9 = .ok (.istore_n 3, 1) := by decide +kernel
theorem dX2_emptiestStore_10 : decode cX2_emptiestStore 10 = .ok (.iconst 0, 1) := by decide +kernel
theorem dX2_emptiestStore_11 : decode cX2_emptiestStore 11 = .ok (.istore 4, 2) := by decide +kernel
theorem dX2_emptiestStore_13 : decode cX2_emptiestStore 13 = .ok (.iload 4, 2) := by decide +kernel
theorem dX2_emptiestStore_15 : decode cX2_emptiestStore 15 = .ok (.iload_n 3, 1) := by decide +kernel
theorem dX2_emptiestStore_16 : decode cX2_emptiestStore 16 = .ok (.if_icmp .ge 39, 3) := by decide +kernel
theorem dX2_emptiestStore_19 : decode cX2_emptiestStore 19 = .ok (.aload_n 2, 1) := by decide +kernel
theorem dX2_emptiestStore_20 : decode cX2_emptiestStore 20 = .ok (.iload 4, 2) := by decide +kernel
theorem dX2_emptiestStore_22 : decode cX2_emptiestStore 22 = .ok (.aaload, 1) := by decide +kernel
theorem dX2_emptiestStore_23 : decode cX2_emptiestStore 23 = .ok (.astore 5, 2) := by decide +kernel
theorem dX2_emptiestStore_25 : decode cX2_emptiestStore 25 = .ok (.aload 5, 2) := by decide +kernel
theorem dX2_emptiestStore_27 : decode cX2_emptiestStore 27 = .ok (.ifnull 22, 3) := by decide +kernel
theorem dX2_emptiestStore_30 : decode cX2_emptiestStore 30 = .ok (.aload_n 1, 1) := by decide +kernel
theorem dX2_emptiestStore_31 : decode cX2_emptiestStore 31 = .ok (.ifnull 15, 3) := by decide +kernel
theorem dX2_emptiestStore_34 : decode cX2_emptiestStore 34 = .ok (.aload 5, 2) := by decide +kernel
theorem dX2_emptiestStore_36 : decode cX2_emptiestStore 36 = .ok (.getfield 117, 3) := by decide +kernel
theorem dX2_emptiestStore_39 : decode cX2_emptiestStore 39 = .ok (.aload_n 1, 1) := by decide +kernel
theorem dX2_emptiestStore_40 : decode cX2_emptiestStore 40 = .ok (.getfield 117, 3) := by decide +kernel
theorem dX2_emptiestStore_43 : decode cX2_emptiestStore 43 = .ok (.if_icmp .ge 6, 3) := by decide +kernel
theorem dX2_emptiestStore_46 : decode cX2_emptiestStore 46 = .ok (.aload 5, 2) := by decide +kernel
theorem dX2_emptiestStore_48 : decode cX2_emptiestStore 48 = .ok (.astore_n 1, 1) := by decide +kernel
theorem dX2_emptiestStore_49 : decode cX2_emptiestStore 49 = .ok (.iinc 4 1, 3) := by decide +kernel
theorem dX2_emptiestStore_52 : decode cX2_emptiestStore 52 = .ok (.goto (-39), 3) := by decide +kernel
theorem dX2_emptiestStore_55 : decode cX2_emptiestStore 55 = .ok (.aload_n 1, 1) := by decide +kernel
theorem dX2_emptiestStore_56 : decode cX2_emptiestStore 56 = .ok (.areturn, 1) := by decide +kernel
set_option maxRecDepth 20000 in
theorem ggX2_dealRations_X2_storeAt : GoodIn wsX2_dealRations wsX2_storeAt := goodIn_r _ [10, 11, 22, 23, 24, 25, 26, 27, 28, 29, 30] (by decide +kernel) (by decide +kernel)
set_option maxRecDepth 20000 in
theorem gX2_dealRations_X2_storeAt : GoodIn wsX2_dealRations (wsV RX2 57 RX2 yX2_storeAt wsX2_storeAt) := goodIn_app (goodIn_of _ (by decide +kernel)) ggX2_dealRations_X2_storeAt
set_option maxRecDepth 20000 in
theorem ggX2_dealRations_X1_giveOut : GoodIn wsX2_dealRations wsX1_giveOut := goodIn_r _ [16, 17, 18, 19, 20, 21, 39, 40, 41] (by decide +kernel) (by decide +kernel)
set_option maxRecDepth 20000 in
theorem gX2_dealRations_X1_giveOut : GoodIn wsX2_dealRations (wsV RX2 133 RX1 yX1_giveOut wsX1_giveOut) := goodIn_app (goodIn_of _ (by decide +kernel)) ggX2_dealRations_X1_giveOut
theorem dX2_dealRations_0 : decode cX2_dealRations 0 = .ok (.aload_n 0, 1) := by decide +kernel
theorem dX2_dealRations_1 : decode cX2_dealRations 1 = .ok (.getfield 23, 3) := by decide +kernel
theorem dX2_dealRations_4 : decode cX2_dealRations 4 = .ok (.astore_n 1, 1) := by decide +kernel
theorem dX2_dealRations_5 : decode cX2_dealRations 5 = .ok (.aload_n 1, 1) := by decide +kernel
theorem dX2_dealRations_6 : decode cX2_dealRations 6 = .ok (.arraylength, 1) := by decide +kernel
theorem dX2_dealRations_7 : decode cX2_dealRations 7 = .ok (.istore_n 2, 1) := by decide +kernel
theorem dX2_dealRations_8 : decode cX2_dealRations 8 = .ok (.iconst 0, 1) := by decide +kernel
theorem dX2_dealRations_9 : decode cX2_dealRations 9 = .ok (.istore_n 3, 1) := by decide +kernel
theorem dX2_dealRations_10 : decode cX2_dealRations 10 = .ok (.iload_n 3, 1) := by decide +kernel
theorem dX2_dealRations_11 : decode cX2_dealRations 11 = .ok (.iload_n 2, 1) := by decide +kernel
theorem dX2_dealRations_12 : decode cX2_dealRations 12 = .ok (.if_icmp .ge 63, 3) := by decide +kernel
theorem dX2_dealRations_15 : decode cX2_dealRations 15 = .ok (.aload_n 1, 1) := by decide +kernel
theorem dX2_dealRations_16 : decode cX2_dealRations 16 = .ok (.iload_n 3, 1) := by decide +kernel
theorem dX2_dealRations_17 : decode cX2_dealRations 17 = .ok (.aaload, 1) := by decide +kernel
theorem dX2_dealRations_18 : decode cX2_dealRations 18 = .ok (.astore 4, 2) := by decide +kernel
theorem dX2_dealRations_20 : decode cX2_dealRations 20 = .ok (.aload 4, 2) := by decide +kernel
theorem dX2_dealRations_22 : decode cX2_dealRations 22 = .ok (.ifnull 47, 3) := by decide +kernel
theorem dX2_dealRations_25 : decode cX2_dealRations 25 = .ok (.aload 4, 2) := by decide +kernel
theorem dX2_dealRations_27 : decode cX2_dealRations 27 = .ok (.getfield 120, 3) := by decide +kernel
theorem dX2_dealRations_30 : decode cX2_dealRations 30 = .ok (.ifCond .ne 39, 3) := by decide +kernel
theorem dX2_dealRations_33 : decode cX2_dealRations 33 = .ok (.aload_n 0, 1) := by decide +kernel
theorem dX2_dealRations_34 : decode cX2_dealRations 34 = .ok (.aload 4, 2) := by decide +kernel
theorem dX2_dealRations_36 : decode cX2_dealRations 36 = .ok (.getfield 124, 3) := by decide +kernel
theorem dX2_dealRations_39 : decode cX2_dealRations 39 = .ok (.invokevirtual 57, 3) := by decide +kernel
theorem dX2_dealRations_42 : decode cX2_dealRations 42 = .ok (.astore 5, 2) := by decide +kernel
theorem dX2_dealRations_44 : decode cX2_dealRations 44 = .ok (.aload 5, 2) := by decide +kernel
theorem dX2_dealRations_46 : decode cX2_dealRations 46 = .ok (.ifnull 23, 3) := by decide +kernel
theorem dX2_dealRations_49 : decode cX2_dealRations 49 = .ok (.aload 4, 2) := by decide +kernel
theorem dX2_dealRations_51 : decode cX2_dealRations 51 = .ok (.dup, 1) := by decide +kernel
theorem dX2_dealRations_52 : decode cX2_dealRations 52 = .ok (.getfield 127, 3) := by decide +kernel
theorem dX2_dealRations_55 : decode cX2_dealRations 55 = .ok (.aload 5, 2) := by decide +kernel
theorem dX2_dealRations_57 : decode cX2_dealRations 57 = .ok (.aload 4, 2) := by decide +kernel
theorem dX2_dealRations_59 : decode cX2_dealRations 59 = .ok (.getfield 130, 3) := by decide +kernel
theorem dX2_dealRations_62 : decode cX2_dealRations 62 = .ok (.invokevirtual 133, 3) := by decide +kernel
theorem dX2_dealRations_65 : decode cX2_dealRations 65 = .ok (.iadd, 1) := by decide +kernel
theorem dX2_dealRations_66 : decode cX2_dealRations 66 = .ok (.putfield 127, 3) := by decide +kernel
theorem dX2_dealRations_69 : decode cX2_dealRations 69 = .ok (.iinc 3 1, 3) := by decide +kernel
theorem dX2_dealRations_72 : decode cX2_dealRations 72 = .ok (.goto (-62), 3) := by decide +kernel
theorem dX2_dealRations_75 : decode cX2_dealRations 75 = .ok (.return_, 1) := by decide +kernel
set_option maxRecDepth 20000 in
theorem ggX2_feedAllWeevils_X1_feedWeevils : GoodIn wsX2_feedAllWeevils wsX1_feedWeevils := goodIn_r _ [6, 7, 8, 9, 10, 11, 12, 13, 14, 15, 16, 5, 17, 27, 28, 29] (by decide +kernel) (by decide +kernel)
set_option maxRecDepth 20000 in
theorem gX2_feedAllWeevils_X1_feedWeevils : GoodIn wsX2_feedAllWeevils (wsV RX2 136 RX1 yX1_feedWeevils wsX1_feedWeevils) := goodIn_app (goodIn_of _ (by decide +kernel)) ggX2_feedAllWeevils_X1_feedWeevils
theorem dX2_feedAllWeevils_0 : decode cX2_feedAllWeevils 0 = .ok (.aload_n 0, 1) := by decide +kernel
theorem dX2_feedAllWeevils_1 : decode cX2_feedAllWeevils 1 = .ok (.getfield 17, 3) := by decide +kernel
theorem dX2_feedAllWeevils_4 : decode cX2_feedAllWeevils 4 = .ok (.astore_n 1, 1) := by decide +kernel
theorem dX2_feedAllWeevils_5 : decode cX2_feedAllWeevils 5 = .ok (.aload_n 1, 1) := by decide +kernel
theorem dX2_feedAllWeevils_6 : decode cX2_feedAllWeevils 6 = .ok (.arraylength, 1) := by decide +kernel
theorem dX2_feedAllWeevils_7 : decode cX2_feedAllWeevils 7 = .ok (.istore_n 2, 1) := by decide +kernel
theorem dX2_feedAllWeevils_8 : decode cX2_feedAllWeevils 8 = .ok (.iconst 0, 1) := by decide +kernel
theorem dX2_feedAllWeevils_9 : decode cX2_feedAllWeevils 9 = .ok (.istore_n 3, 1) := by decide +kernel
theorem dX2_feedAllWeevils_10 : decode cX2_feedAllWeevils 10 = .ok (.iload_n 3, 1) := by decide +kernel
theorem dX2_feedAllWeevils_11 : decode cX2_feedAllWeevils 11 = .ok (.iload_n 2, 1) := by decide +kernel
theorem dX2_feedAllWeevils_12 : decode cX2_feedAllWeevils 12 = .ok (.if_icmp .ge 24, 3) := by decide +kernel
theorem dX2_feedAllWeevils_15 : decode cX2_feedAllWeevils 15 = .ok (.aload_n 1, 1) := by decide +kernel
theorem dX2_feedAllWeevils_16 : decode cX2_feedAllWeevils 16 = .ok (.iload_n 3, 1) := by decide +kernel
theorem dX2_feedAllWeevils_17 : decode cX2_feedAllWeevils 17 = .ok (.aaload, 1) := by decide +kernel
theorem dX2_feedAllWeevils_18 : decode cX2_feedAllWeevils 18 = .ok (.astore 4, 2) := by decide +kernel
theorem dX2_feedAllWeevils_20 : decode cX2_feedAllWeevils 20 = .ok (.aload 4, 2) := by decide +kernel
theorem dX2_feedAllWeevils_22 : decode cX2_feedAllWeevils 22 = .ok (.ifnull 8, 3) := by decide +kernel
theorem dX2_feedAllWeevils_25 : decode cX2_feedAllWeevils 25 = .ok (.aload 4, 2) := by decide +kernel
theorem dX2_feedAllWeevils_27 : decode cX2_feedAllWeevils 27 = .ok (.invokevirtual 136, 3) := by decide +kernel
theorem dX2_feedAllWeevils_30 : decode cX2_feedAllWeevils 30 = .ok (.iinc 3 1, 3) := by decide +kernel
theorem dX2_feedAllWeevils_33 : decode cX2_feedAllWeevils 33 = .ok (.goto (-23), 3) := by decide +kernel
theorem dX2_feedAllWeevils_36 : decode cX2_feedAllWeevils 36 = .ok (.return_, 1) := by decide +kernel
set_option maxRecDepth 20000 in
theorem ggX2_bakeAll_X0_bake : GoodIn wsX2_bakeAll wsX0_bake := goodIn_r _ [6, 7, 8, 9, 10, 11, 12, 13, 14, 24, 25, 26, 27, 28, 29, 30, 31] (by decide +kernel) (by decide +kernel)
set_option maxRecDepth 20000 in
theorem gX2_bakeAll_X0_bake : GoodIn wsX2_bakeAll (wsV RX2 139 RX0 yX0_bake wsX0_bake) := goodIn_app (goodIn_of _ (by decide +kernel)) ggX2_bakeAll_X0_bake
theorem dX2_bakeAll_0 : decode cX2_bakeAll 0 = .ok (.aload_n 0, 1) := by decide +kernel
theorem dX2_bakeAll_1 : decode cX2_bakeAll 1 = .ok (.getfield 23, 3) := by decide +kernel
theorem dX2_bakeAll_4 : decode cX2_bakeAll 4 = .ok (.astore_n 1, 1) := by decide +kernel
theorem dX2_bakeAll_5 : decode cX2_bakeAll 5 = .ok (.aload_n 1, 1) := by decide +kernel
theorem dX2_bakeAll_6 : decode cX2_bakeAll 6 = .ok (.arraylength, 1) := by decide +kernel
theorem dX2_bakeAll_7 : decode cX2_bakeAll 7 = .ok (.istore_n 2, 1) := by decide +kernel
theorem dX2_bakeAll_8 : decode cX2_bakeAll 8 = .ok (.iconst 0, 1) := by decide +kernel
theorem dX2_bakeAll_9 : decode cX2_bakeAll 9 = .ok (.istore_n 3, 1) := by decide +kernel
theorem dX2_bakeAll_10 : decode cX2_bakeAll 10 = .ok (.iload_n 3, 1) := by decide +kernel
theorem dX2_bakeAll_11 : decode cX2_bakeAll 11 = .ok (.iload_n 2, 1) := by decide +kernel
theorem dX2_bakeAll_12 : decode cX2_bakeAll 12 = .ok (.if_icmp .ge 24, 3) := by decide +kernel
theorem dX2_bakeAll_15 : decode cX2_bakeAll 15 = .ok (.aload_n 1, 1) := by decide +kernel
theorem dX2_bakeAll_16 : decode cX2_bakeAll 16 = .ok (.iload_n 3, 1) := by decide +kernel
theorem dX2_bakeAll_17 : decode cX2_bakeAll 17 = .ok (.aaload, 1) := by decide +kernel
theorem dX2_bakeAll_18 : decode cX2_bakeAll 18 = .ok (.astore 4, 2) := by decide +kernel
theorem dX2_bakeAll_20 : decode cX2_bakeAll 20 = .ok (.aload 4, 2) := by decide +kernel
theorem dX2_bakeAll_22 : decode cX2_bakeAll 22 = .ok (.ifnull 8, 3) := by decide +kernel
theorem dX2_bakeAll_25 : decode cX2_bakeAll 25 = .ok (.aload 4, 2) := by decide +kernel
theorem dX2_bakeAll_27 : decode cX2_bakeAll 27 = .ok (.invokevirtual 139, 3) := by decide +kernel
theorem dX2_bakeAll_30 : decode cX2_bakeAll 30 = .ok (.iinc 3 1, 3) := by decide +kernel
theorem dX2_bakeAll_33 : decode cX2_bakeAll 33 = .ok (.goto (-23), 3) := by decide +kernel
theorem dX2_bakeAll_36 : decode cX2_bakeAll 36 = .ok (.return_, 1) := by decide +kernel
set_option maxRecDepth 20000 in
theorem ggX2_sellAtNoon_X0_sell : GoodIn wsX2_sellAtNoon wsX0_sell := goodIn_r _ [10, 11, 12, 13, 14, 15, 16, 31, 32, 33, 34, 35, 36, 37, 38] (by decide +kernel) (by decide +kernel)
set_option maxRecDepth 20000 in
theorem gX2_sellAtNoon_X0_sell : GoodIn wsX2_sellAtNoon (wsV RX2 142 RX0 yX0_sell wsX0_sell) := goodIn_app (goodIn_of _ (by decide +kernel)) ggX2_sellAtNoon_X0_sell
set_option maxRecDepth 20000 in
theorem ggX2_sellAtNoon_X0_bakesLight : GoodIn wsX2_sellAtNoon wsX0_bakesLight := goodIn_r _ [20, 21, 31, 32, 33, 34, 35, 36, 37, 38] (by decide +kernel) (by decide +kernel)
set_option maxRecDepth 20000 in
theorem gX2_sellAtNoon_X0_bakesLight : GoodIn wsX2_sellAtNoon (wsV RX2 145 RX0 yX0_bakesLight wsX0_bakesLight) := goodIn_app (goodIn_of _ (by decide +kernel)) ggX2_sellAtNoon_X0_bakesLight
theorem dX2_sellAtNoon_0 : decode cX2_sellAtNoon 0 = .ok (.aload_n 0, 1) := by decide +kernel
theorem dX2_sellAtNoon_1 : decode cX2_sellAtNoon 1 = .ok (.getfield 27, 3) := by decide +kernel
theorem dX2_sellAtNoon_4 : decode cX2_sellAtNoon 4 = .ok (.istore_n 1, 1) := by decide +kernel
theorem dX2_sellAtNoon_5 : decode cX2_sellAtNoon 5 = .ok (.aload_n 0, 1) := by decide +kernel
theorem dX2_sellAtNoon_6 : decode cX2_sellAtNoon 6 = .ok (.getfield 23, 3) := by decide +kernel
theorem dX2_sellAtNoon_9 : decode cX2_sellAtNoon 9 = .ok (.astore_n 2, 1) := by decide +kernel
theorem dX2_sellAtNoon_10 : decode cX2_sellAtNoon 10 = .ok (.aload_n 2, 1) := by decide +kernel
theorem dX2_sellAtNoon_11 : decode cX2_sellAtNoon 11 = .ok (.arraylength, 1) := by decide +kernel
theorem dX2_sellAtNoon_12 : decode cX2_sellAtNoon 12 = .ok (.istore_n 3, 1) := by decide +kernel
theorem dX2_sellAtNoon_13 : decode cX2_sellAtNoon 13 = .ok (.iconst 0, 1) := by decide +kernel
theorem dX2_sellAtNoon_14 : decode cX2_sellAtNoon 14 = .ok (.istore 4, 2) := by decide +kernel
theorem dX2_sellAtNoon_16 : decode cX2_sellAtNoon 16 = .ok (.iload 4, 2) := by decide +kernel
theorem dX2_sellAtNoon_18 : decode cX2_sellAtNoon 18 = .ok (.iload_n 3, 1) := by decide +kernel
theorem dX2_sellAtNoon_19 : decode cX2_sellAtNoon 19 = .ok (.if_icmp .ge 63, 3) := by decide +kernel
theorem dX2_sellAtNoon_22 : decode cX2_sellAtNoon 22 = .ok (.aload_n 2, 1) := by decide +kernel
theorem dX2_sellAtNoon_23 : decode cX2_sellAtNoon 23 = .ok (.iload 4, 2) := by decide +kernel
theorem dX2_sellAtNoon_25 : decode cX2_sellAtNoon 25 = .ok (.aaload, 1) := by decide +kernel
theorem dX2_sellAtNoon_26 : decode cX2_sellAtNoon 26 = .ok (.astore 5, 2) := by decide +kernel
theorem dX2_sellAtNoon_28 : decode cX2_sellAtNoon 28 = .ok (.aload 5, 2) := by decide +kernel
theorem dX2_sellAtNoon_30 : decode cX2_sellAtNoon 30 = .ok (.ifnull 46, 3) := by decide +kernel
theorem dX2_sellAtNoon_33 : decode cX2_sellAtNoon 33 = .ok (.aload 5, 2) := by decide +kernel
theorem dX2_sellAtNoon_35 : decode cX2_sellAtNoon 35 = .ok (.iload_n 1, 1) := by decide +kernel
theorem dX2_sellAtNoon_36 : decode cX2_sellAtNoon 36 = .ok (.invokevirtual 142, 3) := by decide +kernel
theorem dX2_sellAtNoon_39 : decode cX2_sellAtNoon 39 = .ok (.istore 6, 2) := by decide +kernel
theorem dX2_sellAtNoon_41 : decode cX2_sellAtNoon 41 = .ok (.iload_n 1, 1) := by decide +kernel
theorem dX2_sellAtNoon_42 : decode cX2_sellAtNoon 42 = .ok (.iload 6, 2) := by decide +kernel
theorem dX2_sellAtNoon_44 : decode cX2_sellAtNoon 44 = .ok (.isub, 1) := by decide +kernel
theorem dX2_sellAtNoon_45 : decode cX2_sellAtNoon 45 = .ok (.istore_n 1, 1) := by decide +kernel
theorem dX2_sellAtNoon_46 : decode cX2_sellAtNoon 46 = .ok (.aload_n 0, 1) := by decide +kernel
theorem dX2_sellAtNoon_47 : decode cX2_sellAtNoon 47 = .ok (.dup, 1) := by decide +kernel
theorem dX2_sellAtNoon_48 : decode cX2_sellAtNoon 48 = .ok (.getfield 34, 3) := by decide +kernel
theorem dX2_sellAtNoon_51 : decode cX2_sellAtNoon 51 = .ok (.iload 6, 2) := by decide +kernel
theorem dX2_sellAtNoon_53 : decode cX2_sellAtNoon 53 = .ok (.iadd, 1) := by decide +kernel
theorem dX2_sellAtNoon_54 : decode cX2_sellAtNoon 54 = .ok (.putfield 34, 3) := by decide +kernel
theorem dX2_sellAtNoon_57 : decode cX2_sellAtNoon 57 = .ok (.aload 5, 2) := by decide +kernel
theorem dX2_sellAtNoon_59 : decode cX2_sellAtNoon 59 = .ok (.invokevirtual 145, 3) := by decide +kernel
theorem dX2_sellAtNoon_62 : decode cX2_sellAtNoon 62 = .ok (.ifCond .eq 14, 3) := by decide +kernel
theorem dX2_sellAtNoon_65 : decode cX2_sellAtNoon 65 = .ok (.aload_n 0, 1) := by decide +kernel
theorem dX2_sellAtNoon_66 : decode cX2_sellAtNoon 66 = .ok (.dup, 1) := by decide +kernel
theorem dX2_sellAtNoon_67 : decode cX2_sellAtNoon 67 = .ok (.getfield 37, 3) := by decide +kernel
theorem dX2_sellAtNoon_70 : decode cX2_sellAtNoon 70 = .ok (.iload 6, 2) := by decide +kernel
theorem dX2_sellAtNoon_72 : decode cX2_sellAtNoon 72 = .ok (.iadd, 1) := by decide +kernel
theorem dX2_sellAtNoon_73 : decode cX2_sellAtNoon 73 = .ok (.putfield 37, 3) := by decide +kernel
theorem dX2_sellAtNoon_76 : decode cX2_sellAtNoon 76 = .ok (.iinc 4 1, 3) := by decide +kernel
theorem dX2_sellAtNoon_79 : decode cX2_sellAtNoon 79 = .ok (.goto (-63), 3) := by decide +kernel
theorem dX2_sellAtNoon_82 : decode cX2_sellAtNoon 82 = .ok (.aload_n 0, 1) := by decide +kernel
theorem dX2_sellAtNoon_83 : decode cX2_sellAtNoon 83 = .ok (.dup, 1) := by decide +kernel
theorem dX2_sellAtNoon_84 : decode cX2_sellAtNoon 84 = .ok (.getfield 40, 3) := by decide +kernel
theorem dX2_sellAtNoon_87 : decode cX2_sellAtNoon 87 = .ok (.iload_n 1, 1) := by decide +kernel
theorem dX2_sellAtNoon_88 : decode cX2_sellAtNoon 88 = .ok (.iadd, 1) := by decide +kernel
theorem dX2_sellAtNoon_89 : decode cX2_sellAtNoon 89 = .ok (.putfield 40, 3) := by decide +kernel
theorem dX2_sellAtNoon_92 : decode cX2_sellAtNoon 92 = .ok (.iload_n 1, 1) := by decide +kernel
theorem dX2_sellAtNoon_93 : decode cX2_sellAtNoon 93 = .ok (.ireturn, 1) := by decide +kernel
theorem dX2_flourOfAll_0 : decode cX2_flourOfAll 0 = .ok (.iconst 0, 1) := by decide +kernel
theorem dX2_flourOfAll_1 : decode cX2_flourOfAll 1 = .ok (.istore_n 1, 1) := by decide +kernel
theorem dX2_flourOfAll_2 : decode cX2_flourOfAll 2 = .ok (.aload_n 0, 1) := by decide +kernel
theorem dX2_flourOfAll_3 : decode cX2_flourOfAll 3 = .ok (.getfield 17, 3) := by decide +kernel
theorem dX2_flourOfAll_6 : decode cX2_flourOfAll 6 = .ok (.astore_n 2, 1) := by decide +kernel
theorem dX2_flourOfAll_7 : decode cX2_flourOfAll 7 = .ok (.aload_n 2, 1) := by decide +kernel
theorem dX2_flourOfAll_8 : decode cX2_flourOfAll 8 = .ok (.arraylength, 1) := by decide +kernel
theorem dX2_flourOfAll_9 : decode cX2_flourOfAll 9 = .ok (.istore_n 3, 1) := by decide +kernel
theorem dX2_flourOfAll_10 : decode cX2_flourOfAll 10 = .ok (.iconst 0, 1) := by decide +kernel
theorem dX2_flourOfAll_11 : decode cX2_flourOfAll 11 = .ok (.istore 4, 2) := by decide +kernel
theorem dX2_flourOfAll_13 : decode cX2_flourOfAll 13 = .ok (.iload 4, 2) := by decide +kernel
theorem dX2_flourOfAll_15 : decode cX2_flourOfAll 15 = .ok (.iload_n 3, 1) := by decide +kernel
theorem dX2_flourOfAll_16 : decode cX2_flourOfAll 16 = .ok (.if_icmp .ge 28, 3) := by decide +kernel
theorem dX2_flourOfAll_19 : decode cX2_flourOfAll 19 = .ok (.aload_n 2, 1) := by decide +kernel
theorem dX2_flourOfAll_20 : decode cX2_flourOfAll 20 = .ok (.iload 4, 2) := by decide +kernel
theorem dX2_flourOfAll_22 : decode cX2_flourOfAll 22 = .ok (.aaload, 1) := by decide +kernel
theorem dX2_flourOfAll_23 : decode cX2_flourOfAll 23 = .ok (.astore 5, 2) := by decide +kernel
theorem dX2_flourOfAll_25 : decode cX2_flourOfAll 25 = .ok (.aload 5, 2) := by decide +kernel
theorem dX2_flourOfAll_27 : decode cX2_flourOfAll 27 = .ok (.ifnull 11, 3) := by decide +kernel
theorem dX2_flourOfAll_30 : decode cX2_flourOfAll 30 = .ok (.iload_n 1, 1) := by decide +kernel
theorem dX2_flourOfAll_31 : decode cX2_flourOfAll 31 = .ok (.aload 5, 2) := by decide +kernel
theorem dX2_flourOfAll_33 : decode cX2_flourOfAll 33 = .ok (.getfield 117, 3) := by decide +kernel
theorem dX2_flourOfAll_36 : decode cX2_flourOfAll 36 = .ok (.iadd, 1) := by decide +kernel
theorem dX2_flourOfAll_37 : decode cX2_flourOfAll 37 = .ok (.istore_n 1, 1) := by decide +kernel
theorem dX2_flourOfAll_38 : decode cX2_flourOfAll 38 = .ok (.iinc 4 1, 3) := by decide +kernel
theorem dX2_flourOfAll_41 : decode cX2_flourOfAll 41 = .ok (.goto (-28), 3) := by decide +kernel
theorem dX2_flourOfAll_44 : decode cX2_flourOfAll 44 = .ok (.iload_n 1, 1) := by decide +kernel
theorem dX2_flourOfAll_45 : decode cX2_flourOfAll 45 = .ok (.ireturn, 1) := by decide +kernel
theorem dX2_weevilsOfAll_0 : decode cX2_weevilsOfAll 0 = .ok (.iconst 0, 1) := by decide +kernel
theorem dX2_weevilsOfAll_1 : decode cX2_weevilsOfAll 1 = .ok (.istore_n 1, 1) := by decide +kernel
theorem dX2_weevilsOfAll_2 : decode cX2_weevilsOfAll 2 = .ok (.aload_n 0, 1) := by decide +kernel
theorem dX2_weevilsOfAll_3 : decode cX2_weevilsOfAll 3 = .ok (.getfield 17, 3) := by decide +kernel
theorem dX2_weevilsOfAll_6 : decode cX2_weevilsOfAll 6 = .ok (.astore_n 2, 1) := by decide +kernel
theorem dX2_weevilsOfAll_7 : decode cX2_weevilsOfAll 7 = .ok (.aload_n 2, 1) := by decide +kernel
theorem dX2_weevilsOfAll_8 : decode cX2_weevilsOfAll 8 = .ok (.arraylength, 1) := by decide +kernel
theorem dX2_weevilsOfAll_9 : decode cX2_weevilsOfAll 9 = .ok (.istore_n 3, 1) := by decide +kernel
theorem dX2_weevilsOfAll_10 : decode cX2_weevilsOfAll 10 = .ok (.iconst 0, 1) := by decide +kernel
theorem dX2_weevilsOfAll_11 : decode cX2_weevilsOfAll 11 = .ok (.istore 4, 2) := by decide +kernel
theorem dX2_weevilsOfAll_13 : decode cX2_weevilsOfAll 13 = .ok (.iload 4, 2) := by decide +kernel
theorem dX2_weevilsOfAll_15 : decode cX2_weevilsOfAll 15 = .ok (.iload_n 3, 1) := by decide +kernel
theorem dX2_weevilsOfAll_16 : decode cX2_weevilsOfAll 16 = .ok (.if_icmp .ge 28, 3) := by decide +kernel
theorem dX2_weevilsOfAll_19 : decode cX2_weevilsOfAll 19 = .ok (.aload_n 2, 1) := by decide +kernel
theorem dX2_weevilsOfAll_20 : decode cX2_weevilsOfAll 20 = .ok (.iload 4, 2) := by decide +kernel
theorem dX2_weevilsOfAll_22 : decode cX2_weevilsOfAll 22 = .ok (.aaload, 1) := by decide +kernel
theorem dX2_weevilsOfAll_23 : decode cX2_weevilsOfAll 23 = .ok (.astore 5, 2) := by decide +kernel
theorem dX2_weevilsOfAll_25 : decode cX2_weevilsOfAll 25 = .ok (.aload 5, 2) := by decide +kernel
theorem dX2_weevilsOfAll_27 : decode cX2_weevilsOfAll 27 = .ok (.ifnull 11, 3) := by decide +kernel
theorem dX2_weevilsOfAll_30 : decode cX2_weevilsOfAll 30 = .ok (.iload_n 1, 1) := by decide +kernel
theorem dX2_weevilsOfAll_31 : decode cX2_weevilsOfAll 31 = .ok (.aload 5, 2) := by decide +kernel
theorem dX2_weevilsOfAll_33 : decode cX2_weevilsOfAll 33 = .ok (.getfield 149, 3) := by decide +kernel
theorem dX2_weevilsOfAll_36 : decode cX2_weevilsOfAll 36 = .ok (.iadd, 1) := by decide +kernel
theorem dX2_weevilsOfAll_37 : decode cX2_weevilsOfAll 37 = .ok (.istore_n 1, 1) := by decide +kernel
theorem dX2_weevilsOfAll_38 : decode cX2_weevilsOfAll 38 = .ok (.iinc 4 1, 3) := by decide +kernel
theorem dX2_weevilsOfAll_41 : decode cX2_weevilsOfAll 41 = .ok (.goto (-28), 3) := by decide +kernel
theorem dX2_weevilsOfAll_44 : decode cX2_weevilsOfAll 44 = .ok (.iload_n 1, 1) := by decide +kernel
theorem dX2_weevilsOfAll_45 : decode cX2_weevilsOfAll 45 = .ok (.ireturn, 1) := by decide +kernel
theorem dX2_loavesOfAll_0 : decode cX2_loavesOfAll 0 = .ok (.iconst 0, 1) := by decide +kernel
theorem dX2_loavesOfAll_1 : decode cX2_loavesOfAll 1 = .ok (.istore_n 1, 1) := by decide +kernel
theorem dX2_loavesOfAll_2 : decode cX2_loavesOfAll 2 = .ok (.aload_n 0, 1) := by decide +kernel
theorem dX2_loavesOfAll_3 : decode cX2_loavesOfAll 3 = .ok (.getfield 23, 3) := by decide +kernel
theorem dX2_loavesOfAll_6 : decode cX2_loavesOfAll 6 = .ok (.astore_n 2, 1) := by decide +kernel
theorem dX2_loavesOfAll_7 : decode cX2_loavesOfAll 7 = .ok (.aload_n 2, 1) := by decide +kernel
theorem dX2_loavesOfAll_8 : decode cX2_loavesOfAll 8 = .ok (.arraylength, 1) := by decide +kernel
theorem dX2_loavesOfAll_9 : decode cX2_loavesOfAll 9 = .ok (.istore_n 3, 1) := by decide +kernel
theorem dX2_loavesOfAll_10 : decode cX2_loavesOfAll 10 = .ok (.iconst 0, 1) := by decide +kernel
theorem dX2_loavesOfAll_11 : decode cX2_loavesOfAll 11 = .ok (.istore 4, 2) := by decide +kernel
theorem dX2_loavesOfAll_13 : decode cX2_loavesOfAll 13 = .ok (.iload 4, 2) := by decide +kernel
theorem dX2_loavesOfAll_15 : decode cX2_loavesOfAll 15 = .ok (.iload_n 3, 1) := by decide +kernel
theorem dX2_loavesOfAll_16 : decode cX2_loavesOfAll 16 = .ok (.if_icmp .ge 28, 3) := by decide +kernel
theorem dX2_loavesOfAll_19 : decode cX2_loavesOfAll 19 = .ok (.aload_n 2, 1) := by decide +kernel
theorem dX2_loavesOfAll_20 : decode cX2_loavesOfAll 20 = .ok (.iload 4, 2) := by decide +kernel
theorem dX2_loavesOfAll_22 : decode cX2_loavesOfAll 22 = .ok (.aaload, 1) := by decide +kernel
theorem dX2_loavesOfAll_23 : decode cX2_loavesOfAll 23 = .ok (.astore 5, 2) := by decide +kernel
theorem dX2_loavesOfAll_25 : decode cX2_loavesOfAll 25 = .ok (.aload 5, 2) := by decide +kernel
theorem dX2_loavesOfAll_27 : decode cX2_loavesOfAll 27 = .ok (.ifnull 11, 3) := by decide +kernel
theorem dX2_loavesOfAll_30 : decode cX2_loavesOfAll 30 = .ok (.iload_n 1, 1) := by decide +kernel
theorem dX2_loavesOfAll_31 : decode cX2_loavesOfAll 31 = .ok (.aload 5, 2) := by decide +kernel
theorem dX2_loavesOfAll_33 : decode cX2_loavesOfAll 33 = .ok (.getfield 152, 3) := by decide +kernel
theorem dX2_loavesOfAll_36 : decode cX2_loavesOfAll 36 = .ok (.iadd, 1) := by decide +kernel
theorem dX2_loavesOfAll_37 : decode cX2_loavesOfAll 37 = .ok (.istore_n 1, 1) := by decide +kernel
theorem dX2_loavesOfAll_38 : decode cX2_loavesOfAll 38 = .ok (.iinc 4 1, 3) := by decide +kernel
theorem dX2_loavesOfAll_41 : decode cX2_loavesOfAll 41 = .ok (.goto (-28), 3) := by decide +kernel
theorem dX2_loavesOfAll_44 : decode cX2_loavesOfAll 44 = .ok (.iload_n 1, 1) := by decide +kernel
theorem dX2_loavesOfAll_45 : decode cX2_loavesOfAll 45 = .ok (.ireturn, 1) := by decide +kernel
theorem dX2_bakersOfStore_0 : decode cX2_bakersOfStore 0 = .ok (.iconst 0, 1) := by decide +kernel
theorem dX2_bakersOfStore_1 : decode cX2_bakersOfStore 1 = .ok (.istore_n 2, 1) := by decide +kernel
theorem dX2_bakersOfStore_2 : decode cX2_bakersOfStore 2 = .ok (.aload_n 0, 1) := by decide +kernel
theorem dX2_bakersOfStore_3 : decode cX2_bakersOfStore 3 = .ok (.getfield 23, 3) := by decide +kernel
theorem dX2_bakersOfStore_6 : decode cX2_bakersOfStore 6 = .ok (.astore_n 3, 1) := by decide +kernel
theorem dX2_bakersOfStore_7 : decode cX2_bakersOfStore 7 = .ok (.aload_n 3, 1) := by decide +kernel
theorem dX2_bakersOfStore_8 : decode cX2_bakersOfStore 8 = .ok (.arraylength, 1) := by decide +kernel
theorem dX2_bakersOfStore_9 : decode cX2_bakersOfStore 9 = .ok (.istore 4, 2) := by decide +kernel
theorem dX2_bakersOfStore_11 : decode cX2_bakersOfStore 11 = .ok (.iconst 0, 1) := by decide +kernel
theorem dX2_bakersOfStore_12 : decode cX2_bakersOfStore 12 = .ok (.istore 5, 2) := by decide +kernel
theorem dX2_bakersOfStore_14 : decode cX2_bakersOfStore 14 = .ok (.iload 5, 2) := by decide +kernel
theorem dX2_bakersOfStore_16 : decode cX2_bakersOfStore 16 = .ok (.iload 4, 2) := by decide +kernel
theorem dX2_bakersOfStore_18 : decode cX2_bakersOfStore 18 = .ok (.if_icmp .ge 32, 3) := by decide +kernel
theorem dX2_bakersOfStore_21 : decode cX2_bakersOfStore 21 = .ok (.aload_n 3, 1) := by decide +kernel
theorem dX2_bakersOfStore_22 : decode cX2_bakersOfStore 22 = .ok (.iload 5, 2) := by decide +kernel
theorem dX2_bakersOfStore_24 : decode cX2_bakersOfStore 24 = .ok (.aaload, 1) := by decide +kernel
theorem dX2_bakersOfStore_25 : decode cX2_bakersOfStore 25 = .ok (.astore 6, 2) := by decide +kernel
theorem dX2_bakersOfStore_27 : decode cX2_bakersOfStore 27 = .ok (.aload 6, 2) := by decide +kernel
theorem dX2_bakersOfStore_29 : decode cX2_bakersOfStore 29 = .ok (.ifnull 15, 3) := by decide +kernel
theorem dX2_bakersOfStore_32 : decode cX2_bakersOfStore 32 = .ok (.aload 6, 2) := by decide +kernel
theorem dX2_bakersOfStore_34 : decode cX2_bakersOfStore 34 = .ok (.getfield 124, 3) := by decide +kernel
theorem dX2_bakersOfStore_37 : decode cX2_bakersOfStore 37 = .ok (.iload_n 1, 1) := by decide +kernel
theorem dX2_bakersOfStore_38 : decode cX2_bakersOfStore 38 = .ok (.if_icmp .ne 6, 3) := by decide +kernel
theorem dX2_bakersOfStore_41 : decode cX2_bakersOfStore 41 = .ok (.iinc 2 1, 3) := by decide +kernel
theorem dX2_bakersOfStore_44 : decode cX2_bakersOfStore 44 = .ok (.iinc 5 1, 3) := by decide +kernel
theorem dX2_bakersOfStore_47 : decode cX2_bakersOfStore 47 = .ok (.goto (-33), 3) := by decide +kernel
theorem dX2_bakersOfStore_50 : decode cX2_bakersOfStore 50 = .ok (.iload_n 2, 1) := by decide +kernel
theorem dX2_bakersOfStore_51 : decode cX2_bakersOfStore 51 = .ok (.ireturn, 1) := by decide +kernel
theorem dX2_barredBakers_0 : decode cX2_barredBakers 0 = .ok (.iconst 0, 1) := by decide +kernel
theorem dX2_barredBakers_1 : decode cX2_barredBakers 1 = .ok (.istore_n 1, 1) := by decide +kernel
theorem dX2_barredBakers_2 : decode cX2_barredBakers 2 = .ok (.aload_n 0, 1) := by decide +kernel
theorem dX2_barredBakers_3 : decode cX2_barredBakers 3 = .ok (.getfield 23, 3) := by decide +kernel
theorem dX2_barredBakers_6 : decode cX2_barredBakers 6 = .ok (.astore_n 2, 1) := by decide +kernel
theorem dX2_barredBakers_7 : decode cX2_barredBakers 7 = .ok (.aload_n 2, 1) := by decide +kernel
theorem dX2_barredBakers_8 : decode cX2_barredBakers 8 = .ok (.arraylength, 1) := by decide +kernel
theorem dX2_barredBakers_9 : decode cX2_barredBakers 9 = .ok (.istore_n 3, 1) := by decide +kernel
theorem dX2_barredBakers_10 : decode cX2_barredBakers 10 = .ok (.iconst 0, 1) := by decide +kernel
theorem dX2_barredBakers_11 : decode cX2_barredBakers 11 = .ok (.istore 4, 2) := by decide +kernel
theorem dX2_barredBakers_13 : decode cX2_barredBakers 13 = .ok (.iload 4, 2) := by decide +kernel
theorem dX2_barredBakers_15 : decode cX2_barredBakers 15 = .ok (.iload_n 3, 1) := by decide +kernel
theorem dX2_barredBakers_16 : decode cX2_barredBakers 16 = .ok (.if_icmp .ge 31, 3) := by decide +kernel
theorem dX2_barredBakers_19 : decode cX2_barredBakers 19 = .ok (.aload_n 2, 1) := by decide +kernel
theorem dX2_barredBakers_20 : decode cX2_barredBakers 20 = .ok (.iload 4, 2) := by decide +kernel
theorem dX2_barredBakers_22 : decode cX2_barredBakers 22 = .ok (.aaload, 1) := by decide +kernel
theorem dX2_barredBakers_23 : decode cX2_barredBakers 23 = .ok (.astore 5, 2) := by decide +kernel
theorem dX2_barredBakers_25 : decode cX2_barredBakers 25 = .ok (.aload 5, 2) := by decide +kernel
theorem dX2_barredBakers_27 : decode cX2_barredBakers 27 = .ok (.ifnull 14, 3) := by decide +kernel
theorem dX2_barredBakers_30 : decode cX2_barredBakers 30 = .ok (.aload 5, 2) := by decide +kernel
theorem dX2_barredBakers_32 : decode cX2_barredBakers 32 = .ok (.getfield 120, 3) := by decide +kernel
theorem dX2_barredBakers_35 : decode cX2_barredBakers 35 = .ok (.ifCond .eq 6, 3) := by decide +kernel
theorem dX2_barredBakers_38 : decode cX2_barredBakers 38 = .ok (.iinc 1 1, 3) := by decide +kernel
theorem dX2_barredBakers_41 : decode cX2_barredBakers 41 = .ok (.iinc 4 1, 3) := by decide +kernel
theorem dX2_barredBakers_44 : decode cX2_barredBakers 44 = .ok (.goto (-31), 3) := by decide +kernel
theorem dX2_barredBakers_47 : decode cX2_barredBakers 47 = .ok (.iload_n 1, 1) := by decide +kernel
theorem dX2_barredBakers_48 : decode cX2_barredBakers 48 = .ok (.ireturn, 1) := by decide +kernel
set_option maxRecDepth 20000 in
theorem ggX2_storeFact_X2_storeAt : GoodIn wsX2_storeFact wsX2_storeAt := goodIn_r _ [8, 9, 19, 20, 21, 22, 23, 24, 25, 26, 27] (by decide +kernel) (by decide +kernel)
set_option maxRecDepth 20000 in
theorem gX2_storeFact_X2_storeAt : GoodIn wsX2_storeFact (wsV RX2 57 RX2 yX2_storeAt wsX2_storeAt) := goodIn_app (goodIn_of _ (by decide +kernel)) ggX2_storeFact_X2_storeAt
set_option maxRecDepth 20000 in
theorem ggX2_storeFact_X2_bakersOfStore : GoodIn wsX2_storeFact wsX2_bakersOfStore := goodIn_r _ [13, 14, 15, 19, 20, 21, 22, 23, 24, 25, 26, 27, 28, 29, 30, 31, 32, 33, 34, 35] (by decide +kernel) (by decide +kernel)
set_option maxRecDepth 20000 in
theorem gX2_storeFact_X2_bakersOfStore : GoodIn wsX2_storeFact (wsV RX2 155 RX2 yX2_bakersOfStore wsX2_bakersOfStore) := goodIn_app (goodIn_of _ (by decide +kernel)) ggX2_storeFact_X2_bakersOfStore
theorem dX2_storeFact_0 : decode cX2_storeFact 0 = .ok (.aload_n 0, 1) := by decide +kernel
theorem dX2_storeFact_1 : decode cX2_storeFact 1 = .ok (.iload_n 1, 1) := by decide +kernel
theorem dX2_storeFact_2 : decode cX2_storeFact 2 = .ok (.invokevirtual 57, 3) := by decide +kernel
theorem dX2_storeFact_5 : decode cX2_storeFact 5 = .ok (.astore_n 3, 1) := by decide +kernel
theorem dX2_storeFact_6 : decode cX2_storeFact 6 = .ok (.aload_n 3, 1) := by decide +kernel
theorem dX2_storeFact_7 : decode cX2_storeFact 7 = .ok (.ifnonnull 5, 3) := by decide +kernel
theorem dX2_storeFact_10 : decode cX2_storeFact 10 = .ok (.iconst 0, 1) := by decide +kernel
theorem dX2_storeFact_11 : decode cX2_storeFact 11 = .ok (.ireturn, 1) := by decide +kernel
theorem dX2_storeFact_12 : decode cX2_storeFact 12 = .ok (.iload_n 2, 1) := by decide +kernel
theorem dX2_storeFact_13 : decode cX2_storeFact 13 = .ok (.tableswitch 43 0 2 #[27, 32, 37], 27) := by decide +kernel
theorem dX2_storeFact_40 : decode cX2_storeFact 40 = .ok (.aload_n 3, 1) := by decide +kernel
theorem dX2_storeFact_41 : decode cX2_storeFact 41 = .ok (.getfield 117, 3) := by decide +kernel
theorem dX2_storeFact_44 : decode cX2_storeFact 44 = .ok (.ireturn, 1) := by decide +kernel
theorem dX2_storeFact_45 : decode cX2_storeFact 45 = .ok (.aload_n 3, 1) := by decide +kernel
theorem dX2_storeFact_46 : decode cX2_storeFact 46 = .ok (.getfield 149, 3) := by decide +kernel
theorem dX2_storeFact_49 : decode cX2_storeFact 49 = .ok (.ireturn, 1) := by decide +kernel
theorem dX2_storeFact_50 : decode cX2_storeFact 50 = .ok (.aload_n 0, 1) := by decide +kernel
theorem dX2_storeFact_51 : decode cX2_storeFact 51 = .ok (.iload_n 1, 1) := by decide +kernel
theorem dX2_storeFact_52 : decode cX2_storeFact 52 = .ok (.invokevirtual 155, 3) := by decide +kernel
theorem dX2_storeFact_55 : decode cX2_storeFact 55 = .ok (.ireturn, 1) := by decide +kernel
theorem dX2_storeFact_56 : decode cX2_storeFact 56 = .ok (.aload_n 3, 1) := by decide +kernel
theorem dX2_storeFact_57 : decode cX2_storeFact 57 = .ok (.getfield 158, 3) := by decide +kernel
theorem dX2_storeFact_60 : decode cX2_storeFact 60 = .ok (.ireturn, 1) := by decide +kernel
set_option maxRecDepth 20000 in
theorem ggX2_fact_X2_hourOfDay : GoodIn wsX2_fact wsX2_hourOfDay := goodIn_r _ [11, 1, 12, 13, 14, 15, 33, 34, 35, 36, 37, 38, 39, 40, 41] (by decide +kernel) (by decide +kernel)
set_option maxRecDepth 20000 in
theorem gX2_fact_X2_hourOfDay : GoodIn wsX2_fact (wsV RX2 85 RX2 yX2_hourOfDay wsX2_hourOfDay) := goodIn_app (goodIn_of _ (by decide +kernel)) ggX2_fact_X2_hourOfDay
set_option maxRecDepth 20000 in
theorem ggX2_fact_X2_flourOfAll : GoodIn wsX2_fact wsX2_flourOfAll := goodIn_r _ [19, 20, 21, 33, 34, 35, 36, 37, 38, 39, 40, 41, 42, 43, 44] (by decide +kernel) (by decide +kernel)
set_option maxRecDepth 20000 in
theorem gX2_fact_X2_flourOfAll : GoodIn wsX2_fact (wsV RX2 161 RX2 yX2_flourOfAll wsX2_flourOfAll) := goodIn_app (goodIn_of _ (by decide +kernel)) ggX2_fact_X2_flourOfAll
set_option maxRecDepth 20000 in
theorem ggX2_fact_X2_loavesOfAll : GoodIn wsX2_fact wsX2_loavesOfAll := goodIn_r _ [25, 26, 27, 33, 34, 35, 36, 37, 38, 39, 40, 41, 45, 46, 47, 48, 49, 50, 51, 52] (by decide +kernel) (by decide +kernel)
set_option maxRecDepth 20000 in
theorem gX2_fact_X2_loavesOfAll : GoodIn wsX2_fact (wsV RX2 164 RX2 yX2_loavesOfAll wsX2_loavesOfAll) := goodIn_app (goodIn_of _ (by decide +kernel)) ggX2_fact_X2_loavesOfAll
set_option maxRecDepth 20000 in
theorem ggX2_fact_X2_barredBakers : GoodIn wsX2_fact wsX2_barredBakers := goodIn_r _ [31, 26, 32, 33, 34, 35, 36, 37, 38, 39, 40, 41, 45, 46, 47, 48, 49, 50, 51, 52] (by decide +kernel) (by decide +kernel)
set_option maxRecDepth 20000 in
theorem gX2_fact_X2_barredBakers : GoodIn wsX2_fact (wsV RX2 167 RX2 yX2_barredBakers wsX2_barredBakers) := goodIn_app (goodIn_of _ (by decide +kernel)) ggX2_fact_X2_barredBakers
theorem dX2_fact_0 : decode cX2_fact 0 = .ok (.iload_n 1, 1) := by decide +kernel
theorem dX2_fact_1 : decode cX2_fact 1 = .ok (.tableswitch 96 0 8 #[51, 56, 61, 66, 71, 76, 81, 86, 91], 51) := by decide +kernel
theorem dX2_fact_52 : decode cX2_fact 52 = .ok (.aload_n 0, 1) := by decide +kernel
theorem dX2_fact_53 : decode cX2_fact 53 = .ok (.getfield 31, 3) := by decide +kernel
theorem dX2_fact_56 : decode cX2_fact 56 = .ok (.ireturn, 1) := by decide +kernel
theorem dX2_fact_57 : decode cX2_fact 57 = .ok (.aload_n 0, 1) := by decide +kernel
theorem dX2_fact_58 : decode cX2_fact 58 = .ok (.invokevirtual 85, 3) := by decide +kernel
theorem dX2_fact_61 : decode cX2_fact 61 = .ok (.ireturn, 1) := by decide +kernel
theorem dX2_fact_62 : decode cX2_fact 62 = .ok (.aload_n 0, 1) := by decide +kernel
theorem dX2_fact_63 : decode cX2_fact 63 = .ok (.getfield 27, 3) := by decide +kernel
theorem dX2_fact_66 : decode cX2_fact 66 = .ok (.ireturn, 1) := by decide +kernel
theorem dX2_fact_67 : decode cX2_fact 67 = .ok (.aload_n 0, 1) := by decide +kernel
theorem dX2_fact_68 : decode cX2_fact 68 = .ok (.invokevirtual 161, 3) := by decide +kernel
theorem dX2_fact_71 : decode cX2_fact 71 = .ok (.ireturn, 1) := by decide +kernel
theorem dX2_fact_72 : decode cX2_fact 72 = .ok (.aload_n 0, 1) := by decide +kernel
theorem dX2_fact_73 : decode cX2_fact 73 = .ok (.invokevirtual 164, 3) := by decide +kernel
theorem dX2_fact_76 : decode cX2_fact 76 = .ok (.ireturn, 1) := by decide +kernel
theorem dX2_fact_77 : decode cX2_fact 77 = .ok (.aload_n 0, 1) := by decide +kernel
theorem dX2_fact_78 : decode cX2_fact 78 = .ok (.getfield 34, 3) := by decide +kernel
theorem dX2_fact_81 : decode cX2_fact 81 = .ok (.ireturn, 1) := by decide +kernel
theorem dX2_fact_82 : decode cX2_fact 82 = .ok (.aload_n 0, 1) := by decide +kernel
theorem dX2_fact_83 : decode cX2_fact 83 = .ok (.getfield 37, 3) := by decide +kernel
theorem dX2_fact_86 : decode cX2_fact 86 = .ok (.ireturn, 1) := by decide +kernel
theorem dX2_fact_87 : decode cX2_fact 87 = .ok (.aload_n 0, 1) := by decide +kernel
theorem dX2_fact_88 : decode cX2_fact 88 = .ok (.getfield 40, 3) := by decide +kernel
theorem dX2_fact_91 : decode cX2_fact 91 = .ok (.ireturn, 1) := by decide +kernel
theorem dX2_fact_92 : decode cX2_fact 92 = .ok (.aload_n 0, 1) := by decide +kernel
theorem dX2_fact_93 : decode cX2_fact 93 = .ok (.invokevirtual 167, 3) := by decide +kernel
theorem dX2_fact_96 : decode cX2_fact 96 = .ok (.ireturn, 1) := by decide +kernel
theorem dX2_fact_97 : decode cX2_fact 97 = .ok (.aload_n 0, 1) := by decide +kernel
theorem dX2_fact_98 : decode cX2_fact 98 = .ok (.getfield 43, 3) := by decide +kernel
theorem dX2_fact_101 : decode cX2_fact 101 = .ok (.ireturn, 1) := by decide +kernel
theorem dJ9_floorMod_7cf53_0 : decode cJ9_floorMod_7cf53 0 = .ok (.iload_n 0, 1) := by decide +kernel
theorem dJ9_floorMod_7cf53_1 : decode cJ9_floorMod_7cf53 1 = .ok (.iload_n 1, 1) := by decide +kernel
theorem dJ9_floorMod_7cf53_2 : decode cJ9_floorMod_7cf53 2 = .ok (.irem, 1) := by decide +kernel
theorem dJ9_floorMod_7cf53_3 : decode cJ9_floorMod_7cf53 3 = .ok (.istore_n 2, 1) := by decide +kernel
theorem dJ9_floorMod_7cf53_4 : decode cJ9_floorMod_7cf53 4 = .ok (.iload_n 0, 1) := by decide +kernel
theorem dJ9_floorMod_7cf53_5 : decode cJ9_floorMod_7cf53 5 = .ok (.iload_n 1, 1) := by decide +kernel
theorem dJ9_floorMod_7cf53_6 : decode cJ9_floorMod_7cf53 6 = .ok (.ixor, 1) := by decide +kernel
theorem dJ9_floorMod_7cf53_7 : decode cJ9_floorMod_7cf53 7 = .ok (.ifCond .ge 11, 3) := by decide +kernel
theorem dJ9_floorMod_7cf53_10 : decode cJ9_floorMod_7cf53 10 = .ok (.iload_n 2, 1) := by decide +kernel
theorem dJ9_floorMod_7cf53_11 : decode cJ9_floorMod_7cf53 11 = .ok (.ifCond .eq 7, 3) := by decide +kernel
theorem dJ9_floorMod_7cf53_14 : decode cJ9_floorMod_7cf53 14 = .ok (.iload_n 2, 1) := by decide +kernel
theorem dJ9_floorMod_7cf53_15 : decode cJ9_floorMod_7cf53 15 = .ok (.iload_n 1, 1) := by decide +kernel
theorem dJ9_floorMod_7cf53_16 : decode cJ9_floorMod_7cf53 16 = .ok (.iadd, 1) := by decide +kernel
theorem dJ9_floorMod_7cf53_17 : decode cJ9_floorMod_7cf53 17 = .ok (.ireturn, 1) := by decide +kernel
theorem dJ9_floorMod_7cf53_18 : decode cJ9_floorMod_7cf53 18 = .ok (.iload_n 2, 1) := by decide +kernel
theorem dJ9_floorMod_7cf53_19 : decode cJ9_floorMod_7cf53 19 = .ok (.ireturn, 1) := by decide +kernel
theorem dJ9_max_7cf53_0 : decode cJ9_max_7cf53 0 = .ok (.iload_n 0, 1) := by decide +kernel
theorem dJ9_max_7cf53_1 : decode cJ9_max_7cf53 1 = .ok (.iload_n 1, 1) := by decide +kernel
theorem dJ9_max_7cf53_2 : decode cJ9_max_7cf53 2 = .ok (.if_icmp .lt 7, 3) := by decide +kernel
theorem dJ9_max_7cf53_5 : decode cJ9_max_7cf53 5 = .ok (.iload_n 0, 1) := by decide +kernel
theorem dJ9_max_7cf53_6 : decode cJ9_max_7cf53 6 = .ok (.goto 4, 3) := by decide +kernel
theorem dJ9_max_7cf53_9 : decode cJ9_max_7cf53 9 = .ok (.iload_n 1, 1) := by decide +kernel
theorem dJ9_max_7cf53_10 : decode cJ9_max_7cf53 10 = .ok (.ireturn, 1) := by decide +kernel
theorem dJ9_min_7cf53_0 : decode cJ9_min_7cf53 0 = .ok (.iload_n 0, 1) := by decide +kernel
theorem dJ9_min_7cf53_1 : decode cJ9_min_7cf53 1 = .ok (.iload_n 1, 1) := by decide +kernel
theorem dJ9_min_7cf53_2 : decode cJ9_min_7cf53 2 = .ok (.if_icmp .gt 7, 3) := by decide +kernel
theorem dJ9_min_7cf53_5 : decode cJ9_min_7cf53 5 = .ok (.iload_n 0, 1) := by decide +kernel
theorem dJ9_min_7cf53_6 : decode cJ9_min_7cf53 6 = .ok (.goto 4, 3) := by decide +kernel
theorem dJ9_min_7cf53_9 : decode cJ9_min_7cf53 9 = .ok (.iload_n 1, 1) := by decide +kernel
theorem dJ9_min_7cf53_10 : decode cJ9_min_7cf53 10 = .ok (.ireturn, 1) := by decide +kernel
abbrev vwCl : List vw_C := [(RX0, TX0, 8), (RX1, TX1, 3), (RX2, TX2, 9), (RX3, TX3, 2), (RX4, TX4, 9)]
end
section
/-! ===== the words of this proof: worlds as lists up to their order, contracts, calls ===== -/
abbrev Iu : Type := Nat → Int32
/-- the array classes of the system: int, Store, Baker, int[], long -/
def xt (cy : Nat → ClassId) : List (ClassId × FieldType) := [(cy 0, .int), (cy 1, .object RX1), (cy 2, .object RX0), (cy 3, .array .int), (cy 4, .long)]
/-- what is known of the tables in every state -/
def XK (D : va_G) (cy : Nat → ClassId) (U : State) : Prop := va_K D vwCl (xt cy) U ∧ va_AO RX1 U ∧ va_AO RX0 U ∧ (Cond.arrayOver (.array .int)).before #[] U = true ∧ True
theorem XK.warmed {D : va_G} {cy : Nat → ClassId} {s U : State} (hW : s.WarmedH U.vm) (h : XK D cy s) : XK D cy U :=
  ⟨va_K.moved hW.alike h.1, va_AO.moved hW.alike h.2.1, va_AO.moved hW.alike h.2.2.1, over_moved hW.alike h.2.2.2.1, trivial⟩
theorem XK.same {D : va_G} {cy : Nat → ClassId} {s U : State} (e : s.vm = U.vm) (h : XK D cy s) : XK D cy U := by
  have al : s.vm.Alike U.vm := by rw [e]; exact Vm.Alike.refl _
  exact ⟨va_K.moved al h.1, va_AO.moved al h.2.1, va_AO.moved al h.2.2.1, over_moved al h.2.2.2.1, trivial⟩
theorem xP_iff {D : va_G} {cl : List vw_C} {ws : va_W} {H : Heap} : va_P D cl ws H ↔ ∀ q ∈ ws, va_at D cl q H :=
  ⟨fun h q hq => (List.getElem?_of_mem hq).elim fun k hk => h k q hk, fun h k q hk => h q (List.mem_of_getElem? hk)⟩
theorem xD_iff {A : Nat → Prop} {ws : va_W} : va_D A ws ↔ (ws.map Prod.fst).Nodup ∧ ∀ q ∈ ws, A q.1 := by
  constructor
  · rintro ⟨h1, h2⟩
    refine ⟨?_, fun q hq => ?_⟩
    · rw [List.nodup_iff_pairwise_ne, List.pairwise_iff_getElem]
      intro i j hi hj hij he
      simp only [List.length_map] at hi hj
      simp only [List.getElem_map] at he
      have := h1 i j ws[i] ws[j] (List.getElem?_eq_getElem hi) (List.getElem?_eq_getElem hj) he
      omega
    · obtain ⟨k, hk⟩ := List.getElem?_of_mem hq
      exact h2 k q hk
  · rintro ⟨h1, h2⟩
    refine ⟨fun i j p q hi hj he => ?_, fun k q hk => h2 q (List.mem_of_getElem? hk)⟩
    rw [List.nodup_iff_pairwise_ne, List.pairwise_iff_getElem] at h1
    obtain ⟨hi1, hi2⟩ := List.getElem?_eq_some_iff.mp hi
    obtain ⟨hj1, hj2⟩ := List.getElem?_eq_some_iff.mp hj
    rcases Nat.lt_trichotomy i j with h | h | h
    · exact (h1 i j (by simpa using hi1) (by simpa using hj1) h (by rw [List.getElem_map, List.getElem_map, hi2, hj2]; exact he)).elim
    · exact h
    · exact (h1 j i (by simpa using hj1) (by simpa using hi1) h (by rw [List.getElem_map, List.getElem_map, hi2, hj2]; exact he.symm)).elim
theorem xP_perm {D : va_G} {cl : List vw_C} {ws ws' : va_W} {H : Heap} (hp : List.Perm ws ws') (h : va_P D cl ws H) : va_P D cl ws' H :=
  xP_iff.mpr fun q hq => xP_iff.mp h q (hp.mem_iff.mpr hq)
theorem xD_perm {A : Nat → Prop} {ws ws' : va_W} (hp : List.Perm ws ws') (h : va_D A ws) : va_D A ws' := by
  rw [xD_iff] at h ⊢
  exact ⟨(hp.map Prod.fst).nodup h.1, fun q hq => h.2 q (hp.mem_iff.mpr hq)⟩
theorem xP_app {D : va_G} {cl : List vw_C} {w1 w2 : va_W} {H : Heap} : va_P D cl (w1 ++ w2) H ↔ va_P D cl w1 H ∧ va_P D cl w2 H := by
  simp only [xP_iff, List.mem_append]
  exact ⟨fun h => ⟨fun q hq => h q (Or.inl hq), fun q hq => h q (Or.inr hq)⟩, fun h q hq => hq.elim (h.1 q) (h.2 q)⟩
theorem xA_mem {ws : va_W} {sz q : Nat} : va_A ws sz q ↔ (∃ e, (q, e) ∈ ws) ∨ sz ≤ q := by
  unfold va_A
  constructor
  · rintro (⟨k, e, h⟩ | h)
    · exact Or.inl ⟨e, List.mem_of_getElem? h⟩
    · exact Or.inr h
  · rintro (⟨e, h⟩ | h)
    · obtain ⟨k, hk⟩ := List.getElem?_of_mem h
      exact Or.inl ⟨k, e, hk⟩
    · exact Or.inr h
/-- behind a call: what came back of the callee's world, beside the rest, unchanged -/
theorem xjoin {A : Nat → Prop} {D : va_G} {cl : List vw_C} {ws w0 wr w1 : va_W} {H H1 : Heap} (hP : va_P D cl ws H) (hD : va_D A ws) (hp : List.Perm ws (w0 ++ wr))
    (hk : ∀ q : Nat, q < H.size → ¬ va_A w0 H.size q → H1[q]? = H[q]?) (hA : ∀ q : Nat, H.size ≤ q → A q) (hP1 : va_P D cl w1 H1) (hD1 : va_D (va_A w0 H.size) w1) : va_P D cl (w1 ++ wr) H1 ∧ va_D A (w1 ++ wr) := by
  have hP := xP_perm hp hP
  have hD := xD_perm hp hD
  obtain ⟨hPw, hPr⟩ := xP_app.mp hP
  rw [xD_iff] at hD hD1
  obtain ⟨hn, hAw⟩ := hD
  rw [List.map_append, List.nodup_append] at hn
  have apart : ∀ q ∈ wr, q.1 < H.size ∧ ¬ va_A w0 H.size q.1 := by
    intro q hq
    have hl := (xP_iff.mp hPr q hq).lt
    refine ⟨hl, fun h => ?_⟩
    rcases xA_mem.mp h with ⟨e, h⟩ | h
    · exact hn.2.2 q.1 (List.mem_map.mpr ⟨_, h, rfl⟩) q.1 (List.mem_map.mpr ⟨q, hq, rfl⟩) rfl
    · omega
  refine ⟨xP_app.mpr ⟨hP1, xP_iff.mpr fun q hq => (xP_iff.mp hPr q hq).kept (hk q.1 (apart q hq).1 (apart q hq).2)⟩, xD_iff.mpr ⟨?_, fun q hq => ?_⟩⟩
  · rw [List.map_append, List.nodup_append]
    refine ⟨hD1.1, hn.2.1, fun a ha b hb hab => ?_⟩
    obtain ⟨x, hx, rfl⟩ := List.mem_map.mp ha
    obtain ⟨y, hy, rfl⟩ := List.mem_map.mp hb
    exact (apart y hy).2 (hab ▸ hD1.2 x hx)
  · rcases List.mem_append.mp hq with h | h
    · rcases xA_mem.mp (hD1.2 q h) with ⟨e, g⟩ | g
      · exact hAw (q.1, e) (List.mem_append_left _ g)
      · exact hA q.1 g
    · exact hAw q (List.mem_append_right _ h)
/-- a callee's world w0 within the caller's ws; out: the caller's world behind the call -/
def xE {S : Type} (ws w0 : va_W) (w1 out : S → va_W) : Prop := ∃ wr : va_W, List.Perm ws (w0 ++ wr) ∧ ∀ u, List.Perm (w1 u ++ wr) (out u)
theorem xE_all {S : Type} {w0 : va_W} {w1 : S → va_W} : xE w0 w0 w1 w1 := ⟨[], by simp, fun u => by simp⟩
theorem xE_nil {S : Type} {ws : va_W} : xE ws [] (fun _ : S => []) (fun _ => ws) := ⟨ws, by simp, fun u => by simp⟩
theorem xE_app {S : Type} {w0 : va_W} {w1 : S → va_W} (pre post : va_W) : xE (pre ++ (w0 ++ post)) w0 w1 (fun u => pre ++ (w1 u ++ post)) :=
  ⟨pre ++ post, (List.perm_append_comm_assoc pre w0 post), fun u => (List.perm_append_comm_assoc pre (w1 u) post).symm⟩
theorem xset_perm {ws : va_W} {k : Nat} {q : Nat × va_E} (h : ws[k]? = some q) : ∃ wr : va_W, List.Perm ws (q :: wr) ∧ ∀ x, List.Perm (x :: wr) (ws.set k x) := by
  obtain ⟨hk, hq⟩ := List.getElem?_eq_some_iff.mp h
  refine ⟨ws.take k ++ ws.drop (k + 1), ?_, fun x => ?_⟩
  · have e : ws = ws.take k ++ q :: ws.drop (k + 1) := by
      conv => lhs; rw [← List.take_append_drop k ws, List.drop_eq_getElem_cons hk, hq]
    conv => lhs; rw [e]
    exact List.perm_middle
  · rw [List.set_eq_take_append_cons_drop, if_pos hk]
    exact List.perm_middle.symm
theorem xE_one {S : Type} {ws : va_W} {a : Nat} {e : va_E} {e1 : S → va_E} (k : Nat) (h : ws[k]? = some (a, e)) : xE ws [(a, e)] (fun u => [(a, e1 u)]) (fun u => ws.set k (a, e1 u)) := by
  obtain ⟨wr, h1, h2⟩ := xset_perm h
  exact ⟨wr, h1, fun u => h2 _⟩
/-- two cells, the second stays -/
theorem xE_two {S : Type} {ws : va_W} {a b : Nat} {e f : va_E} {e1 : S → va_E} (k j : Nat) (hkj : k ≠ j) (h : ws[k]? = some (a, e)) (hj : ws[j]? = some (b, f)) : xE ws [(a, e), (b, f)] (fun u => [(a, e1 u), (b, f)]) (fun u => ws.set k (a, e1 u)) := by
  obtain ⟨wr, h1, h2⟩ := xset_perm h
  have hm : (b, f) ∈ wr ∨ (b, f) = (a, e) := by
    rcases List.mem_cons.mp (h1.mem_iff.mp (List.mem_of_getElem? hj)) with g | g
    · exact Or.inr g
    · exact Or.inl g
  obtain ⟨hk1, hq⟩ := List.getElem?_eq_some_iff.mp h
  have hm : (b, f) ∈ wr := by
    have h3 := h2 (a, .inr (9, []))
    have h4 : (ws.set k (a, .inr (9, [])))[j]? = some (b, f) := by rw [List.getElem?_set_ne hkj]; exact hj
    rcases List.mem_cons.mp (h3.mem_iff.mpr (List.mem_of_getElem? h4)) with g | g
    · rcases hm with hm | hm
      · exact hm
      · have := hm.symm.trans g
        injection this with _ e2
        have h5 := h2 (a, .inr (8, []))
        have h6 : (ws.set k (a, .inr (8, [])))[j]? = some (b, f) := by rw [List.getElem?_set_ne hkj]; exact hj
        rcases List.mem_cons.mp (h5.mem_iff.mpr (List.mem_of_getElem? h6)) with g2 | g2
        · have := hm.symm.trans g2
          injection this with _ e3
          rw [e2] at e3
          injection e3 with e3
          injection e3 with e3
          exact absurd e3 (by decide)
        · exact g2
    · exact g
  obtain ⟨i, hi⟩ := List.getElem?_of_mem hm
  obtain ⟨wr2, g1, g2⟩ := xset_perm hi
  refine ⟨wr2, h1.trans (g1.cons _), fun u => ?_⟩
  refine List.Perm.trans ?_ (h2 (a, e1 u))
  exact (g1.symm).cons _
theorem xE_perm {S : Type} {ws ws' w0 : va_W} {w1 out out' : S → va_W} (h : xE ws w0 w1 out) (hp : List.Perm ws' ws) (ho : ∀ u, List.Perm (out u) (out' u)) : xE ws' w0 w1 out' := by
  obtain ⟨wr, h1, h2⟩ := h
  exact ⟨wr, hp.trans h1, fun u => (h2 u).trans (ho u)⟩
/-- a world ahead of a call -/
def xPre (D : va_G) (cy : Nat → ClassId) (w0 : va_W) (sz : Nat) : State → Prop := fun U => U.heap.size = sz ∧ va_P D vwCl w0 U.heap ∧ XK D cy U ∧ va_D (fun _ => True) w0
/-- behind it: the answer, the world, the frame -/
def xQ {S : Type} (D : va_G) (A : Nat → Prop) (rv : S → Option Value) (P : S → Prop) (w1 : S → va_W) : Array Value → State → Outcome → State → Prop := fun _ st oc t =>
  (∃ u : S, oc = .returned (rv u) ∧ P u ∧ va_P D vwCl (w1 u) t.heap ∧ va_D A (w1 u)) ∧ va_F A st t
def xM {S : Type} (l : Launch) (D : va_G) (cy : Nat → ClassId) (y : MethodName) (wd : List Cond) (rm : Room) (av : List Value) (w0 : va_W) (rv : S → Option Value) (P : S → Prop) (w1 : S → va_W) : Prop :=
  ∀ sz : Nat, Met l y wd rm (va_Pc av (xPre D cy w0 sz)) (xQ D (va_A w0 sz) rv P w1) rm.cells rm.slots (va_A w0 sz)
theorem xM.of {S : Type} {l : Launch} {D : va_G} {cy : Nat → ClassId} {y : MethodName} {wd wd' : List Cond} {rm : Room} {av : List Value} {w0 : va_W} {rv : S → Option Value} {P : S → Prop} {w1 : S → va_W} (cc : ByteArray) (maxL : Nat) (ret : Option FieldType) (own : String)
    (hy : plainName y.cls = true) (ho : y.cls = own) (hw : wd = .code y cc maxL ret :: wd') (hlen : (lg_sl av).length ≤ maxL)
    (body : ∀ (p : Program) (e : Env) (s : State) (m : MethodId) (below : List Frame) (meth : Method) (c : Code) (A : Nat → Prop) (ls : Array Slot), p.tables.exec = Jvm.exec → c.code = cc → meth.sig.returnType = ret → (∀ w ∈ wd, w.before av.toArray s = true) → s.vm.findClass own = some m.cls → meth.locks = false → c.maxLocals = maxL → meth.name = y.name → XK D cy s →
      (∀ q : Nat, s.heap.size ≤ q → A q) → va_P D vwCl w0 s.heap → va_D A w0 → va_S A s.heap s.heap [] → lv_has ls maxL (lv_args 0 av) →
      W p l e rm s m av.toArray below meth c s.heap [] 0 0 (MQ below (xQ D A rv P w1) av.toArray s rm.cells rm.slots A) (F0 m 0 ls [])) : xM l D cy y wd rm av w0 rv P w1 := by
  intro sz
  refine Met.ofW (cc := cc) (maxL := maxL) (ret := ret) hy hw ?_
  intro p e s m args below meth c s₁ B hml hv
  obtain ⟨rfl, hsz, hP, hK, hD0⟩ := hv
  subst hsz
  have hts := atoms_spec (ws := wd) B.pre
  have hl := lv_entry av hlen
  rw [lg_entry_eq]
  exact body p e s m below meth c (va_A w0 s.heap.size) _ B.exec B.bytes B.returns hts (by rw [← ho]; exact findClass_of_methodNamed B.named) B.notSynchronized hml (name_of_methodNamed B.named B.method).1 hK (fun q h => Or.inr h) hP hD0.self va_S.rf hl
section XEND
variable {S : Type} {p : Program} {l : Launch} {e : Env} {R : Room} {s : State} {m : MethodId} {args : Array Value} {below : List Frame} {meth : Method} {c : Code} {H : Heap} {locs : List Loc} {cells slots mc ms : Nat} {cc : ByteArray} {pc : Nat} {ls : Array Slot} {D : va_G} {A : Nat → Prop} {rv : S → Option Value} {P : S → Prop} {w1 : S → va_W}
theorem xri (u : S) {v : Int32} (hx : p.tables.exec = Jvm.exec) (hb : c.code = cc) (hr : meth.sig.returnType = some .int) (hlocks : meth.locks = false) (hS : va_S A s.heap H locs) (hc : cells ≤ mc) (hs : slots ≤ ms) (hdg : decode cc pc = .ok (.ireturn, 1)) (hP : va_P D vwCl (w1 u) H) (hD : va_D A (w1 u)) (hv : rv u = some (.int v)) (hu : P u) :
    W p l e R s m args below meth c H locs cells slots (MQ below (xQ D A rv P w1) args s mc ms A) (F0 m pc ls [.int v]) :=
  W.widen hc hs (W.iret (v := v) hx hb hr (fun t ht hW => ⟨⟨u, by rw [hv], hu, by rw [ht]; exact hP, hD⟩, hS.F ht⟩) hS.2.2 hdg hlocks)
theorem xrz (u : S) {v : Int32} (hx : p.tables.exec = Jvm.exec) (hb : c.code = cc) (hr : meth.sig.returnType = some .boolean) (hlocks : meth.locks = false) (hS : va_S A s.heap H locs) (hc : cells ≤ mc) (hs : slots ≤ ms) (hdg : decode cc pc = .ok (.ireturn, 1)) (hn : narrow .boolean (.int v) = .int v) (hP : va_P D vwCl (w1 u) H) (hD : va_D A (w1 u)) (hv : rv u = some (.int v)) (hu : P u) :
    W p l e R s m args below meth c H locs cells slots (MQ below (xQ D A rv P w1) args s mc ms A) (F0 m pc ls [.int v]) :=
  W.widen hc hs (W.zret (v := v) hx hb hr hn (fun t ht hW => ⟨⟨u, by rw [hv], hu, by rw [ht]; exact hP, hD⟩, hS.F ht⟩) hS.2.2 hdg hlocks)
theorem xrl (u : S) {v : Int64} (hx : p.tables.exec = Jvm.exec) (hb : c.code = cc) (hr : meth.sig.returnType = some .long) (hlocks : meth.locks = false) (hS : va_S A s.heap H locs) (hc : cells ≤ mc) (hs : slots ≤ ms) (hdg : decode cc pc = .ok (.lreturn, 1)) (hP : va_P D vwCl (w1 u) H) (hD : va_D A (w1 u)) (hv : rv u = some (.long v)) (hu : P u) :
    W p l e R s m args below meth c H locs cells slots (MQ below (xQ D A rv P w1) args s mc ms A) (F0 m pc ls [.long v]) :=
  W.widen hc hs (W.lret (v := v) hx hb hr (fun t ht hW => ⟨⟨u, by rw [hv], hu, by rw [ht]; exact hP, hD⟩, hS.F ht⟩) hS.2.2 hdg hlocks)
theorem xra (u : S) {v : Value} {rt : FieldType} (hx : p.tables.exec = Jvm.exec) (hb : c.code = cc) (hr : meth.sig.returnType = some rt) (hrt : (∃ n, rt = .object n) ∨ ∃ t, rt = .array t) (hva : v = .null ∨ ∃ a, v = .ref a) (hlocks : meth.locks = false) (hS : va_S A s.heap H locs) (hc : cells ≤ mc) (hs : slots ≤ ms) (hdg : decode cc pc = .ok (.areturn, 1)) (hP : va_P D vwCl (w1 u) H) (hD : va_D A (w1 u)) (hv : rv u = some v) (hu : P u) :
    W p l e R s m args below meth c H locs cells slots (MQ below (xQ D A rv P w1) args s mc ms A) (F0 m pc ls [v]) :=
  W.widen hc hs (W.aret (v := v) hx hb hr hrt hva (fun t ht hW => ⟨⟨u, by rw [hv], hu, by rw [ht]; exact hP, hD⟩, hS.F ht⟩) hS.2.2 hdg hlocks)
theorem xrv (u : S) (hx : p.tables.exec = Jvm.exec) (hb : c.code = cc) (hr : meth.sig.returnType = none) (hlocks : meth.locks = false) (hS : va_S A s.heap H locs) (hc : cells ≤ mc) (hs : slots ≤ ms) (hdg : decode cc pc = .ok (.return_, 1)) (hP : va_P D vwCl (w1 u) H) (hD : va_D A (w1 u)) (hv : rv u = none) (hu : P u) :
    W p l e R s m args below meth c H locs cells slots (MQ below (xQ D A rv P w1) args s mc ms A) (F0 m pc ls []) :=
  W.widen hc hs (W.vret hx hb hr (fun t ht hW => ⟨⟨u, by rw [hv], hu, by rw [ht]; exact hP, hD⟩, hS.F ht⟩) hS.2.2 hdg hlocks)
end XEND
section XCALL
variable {S : Type} {p : Program} {l : Launch} {e : Env} {R : Room} {s : State} {m : MethodId} {args : Array Value} {below : List Frame} {meth : Method} {c : Code} {H H0 : Heap} {locs : List Loc} {cells slots : Nat} {Q : State → Prop} {cc : ByteArray} {pc : Nat} {ls : Array Slot} {D : va_G} {cy : Nat → ClassId} {A : Nat → Prop} {rv : S → Option Value} {P : S → Prop} {w0 ws : va_W} {w1 out : S → va_W} {rm : Room}
theorem xgo {mc ms : Nat} {rest st0 : List Value} {a : Array Value} (hr : va_Run p l e R s m args below meth c H locs cells slots mc ms (F0 m pc ls st0) rest (xQ D (va_A w0 H.size) rv P w1 a) (va_A w0 H.size)) (hP : va_P D vwCl ws H) (hD : va_D A ws) (hS : va_S A H0 H locs) (hA : ∀ q : Nat, H0.size ≤ q → A q) (hE : xE ws w0 w1 out)
    (kk : ∀ (u : S) (H1 : Heap) (locs1 : List Loc), P u → va_P D vwCl (out u) H1 → va_D A (out u) → va_S A H0 H1 locs1 → W p l e R s m args below meth c H1 locs1 (cells + mc) (slots + ms) Q (F0 m (pc + 3) ls ((rv u).toList ++ rest))) : W p l e R s m args below meth c H locs cells slots Q (F0 m pc ls st0) := by
  intro T hT X
  obtain ⟨v, st₀, t, T', L, h0, X', hL, e1, e2, ⟨⟨u, hv, hp, hPb, hDb⟩, hz, hk⟩, st⟩ := hr T hT X
  cases hv
  rw [h0] at hz hk
  obtain ⟨wr, g1, g2⟩ := hE
  have hAH : ∀ q : Nat, H.size ≤ q → A q := fun q h => hA q (Nat.le_trans hS.1 h)
  have hF : ∀ q, va_A w0 H.size q → A q := by
    intro q h
    rcases xA_mem.mp h with ⟨x, h⟩ | h
    · exact (xD_iff.mp hD).2 (q, x) (g1.mem_iff.mpr (List.mem_append_left _ h))
    · exact hAH q h
  obtain ⟨j1, j2⟩ := xjoin hP hD g1 hk hAH hPb hDb
  obtain ⟨t2, a1, b1⟩ := kk u T'.heap (locs ++ L) hp (by rw [e1]; exact xP_perm (g2 u) j1) (xD_perm (g2 u) j2)
    ⟨Nat.le_trans hS.1 (by rw [e1]; exact hz), fun q h1 h2 => by rw [e1, hk q (Nat.lt_of_lt_of_le h1 hS.1) (fun z => h2 (hF q z))]; exact hS.2.1 q h1 h2, fun q hq => by
      rcases List.mem_append.mp hq with h | h
      · exact hS.2.2 q h
      · exact hF _ (hL q h)⟩ T' rfl X'
  exact ⟨t2, st t2 a1, b1⟩
variable {Ts wd : List Cond} {own C : String} {y : MethodName} {nL maxL index n : Nat} {bytes : ByteArray} {ret : Option FieldType} {b : Addr} {As rest st : List Value}
theorem xblind {av : List Value} {sz : Nat} : FrameBlind (va_Pc av (xPre D cy w0 sz)) := fun a U g mk q => by
  obtain ⟨q0, q1, qP, qK, qD⟩ := q
  exact ⟨q0, q1, qP, XK.same rfl qK, qD⟩
theorem xcV {ci : Nat} {fs : List Value} {qc : vw_C} (F : CallFix p m c cc nL s args Ts own) (hM : xM l D cy y wd rm (.ref b :: As) w0 rv P w1) (cw : CallW R s args own C index y bytes maxL ret wd rm rm.cells rm.slots n)
    (hK : XK D cy s) (hP : va_P D vwCl ws H) (hD : va_D A ws) (hS : va_S A H0 H locs) (hA : ∀ q : Nat, H0.size ≤ q → A q) (hrec : w0[0]? = some (b, .inr (ci, fs))) (hci : vwCl[ci]? = some qc) (hC : qc.1 = C) (hE : xE ws w0 w1 out)
    (hn : As.length = n) (hsize : ls.size = nL) (hst : st = As.reverse ++ .ref b :: rest) (hrest : (rest.map fun v => v.category).sum ≤ 8) (hdg : decode cc pc = .ok (.invokevirtual index, 3)) (hf : cells + rm.cells ≤ R.cells ∧ slots + rm.slots ≤ R.slots)
    (kk : ∀ (u : S) (H1 : Heap) (locs1 : List Loc), P u → va_P D vwCl (out u) H1 → va_D A (out u) → va_S A H0 H1 locs1 → W p l e R s m args below meth c H1 locs1 (cells + rm.cells) (slots + rm.slots) Q (F0 m (pc + 3) ls ((rv u).toList ++ rest))) : W p l e R s m args below meth c H locs cells slots Q (F0 m pc ls st) := by
  subst hst
  subst hC
  have hPw : va_P D vwCl w0 H := by
    obtain ⟨wr, g1, -⟩ := hE
    exact (xP_app.mp (xP_perm g1 hP)).1
  have hDw : va_D (fun _ => True) w0 := by
    obtain ⟨wr, g1, -⟩ := hE
    have h := xD_iff.mp (xD_perm g1 hD)
    rw [List.map_append, List.nodup_append] at h
    exact xD_iff.mpr ⟨h.1.1, fun _ _ => trivial⟩
  refine xgo (va_runV (As := As) (rest := rest) F (hM H.size) cw ⟨xblind, va_recv hK.1 hPw hci hrec, fun U hU hW => ⟨rfl, by rw [hU], by rw [hU]; exact hPw, hK.warmed hW, hDw⟩⟩ rfl hn hsize rfl (lv_room hrest) hdg hf) hP hD hS hA hE kk
theorem xcS (F : CallFix p m c cc nL s args Ts own) (hM : xM l D cy y wd rm As w0 rv P w1) (cw : CallB R s args own index y bytes maxL ret wd rm rm.cells rm.slots n ∧ (Cond.static y).before args s = true)
    (hK : XK D cy s) (hP : va_P D vwCl ws H) (hD : va_D A ws) (hS : va_S A H0 H locs) (hA : ∀ q : Nat, H0.size ≤ q → A q) (hE : xE ws w0 w1 out)
    (hn : As.length = n) (hsize : ls.size = nL) (hst : st = As.reverse ++ rest) (hrest : (rest.map fun v => v.category).sum ≤ 8) (hdg : decode cc pc = .ok (.invokestatic index, 3)) (hf : cells + rm.cells ≤ R.cells ∧ slots + rm.slots ≤ R.slots)
    (kk : ∀ (u : S) (H1 : Heap) (locs1 : List Loc), P u → va_P D vwCl (out u) H1 → va_D A (out u) → va_S A H0 H1 locs1 → W p l e R s m args below meth c H1 locs1 (cells + rm.cells) (slots + rm.slots) Q (F0 m (pc + 3) ls ((rv u).toList ++ rest))) : W p l e R s m args below meth c H locs cells slots Q (F0 m pc ls st) := by
  subst hst
  have hPw : va_P D vwCl w0 H := by
    obtain ⟨wr, g1, -⟩ := hE
    exact (xP_app.mp (xP_perm g1 hP)).1
  have hDw : va_D (fun _ => True) w0 := by
    obtain ⟨wr, g1, -⟩ := hE
    have h := xD_iff.mp (xD_perm g1 hD)
    rw [List.map_append, List.nodup_append] at h
    exact xD_iff.mpr ⟨h.1.1, fun _ _ => trivial⟩
  refine xgo (va_runS (As := As) (rest := rest) F (hM H.size) cw ⟨xblind, fun U hU hW => ⟨rfl, by rw [hU], by rw [hU]; exact hPw, hK.warmed hW, hDw⟩⟩ rfl hn hsize rfl (lv_room hrest) hdg hf) hP hD hS hA hE kk
theorem xcI (F : CallFix p m c cc nL s args Ts own) (hM : xM l D cy y wd rm (.ref b :: As) w0 rv P w1) (cw : CallB R s args own index y bytes maxL none wd rm rm.cells rm.slots n ∧ y.name = "<init>" ∧ (Cond.instanceMethod y).before args s = true)
    (hK : XK D cy s) (hP : va_P D vwCl ws H) (hD : va_D A ws) (hS : va_S A H0 H locs) (hA : ∀ q : Nat, H0.size ≤ q → A q) (hE : xE ws w0 w1 out)
    (hn : As.length = n) (hsize : ls.size = nL) (hst : st = As.reverse ++ .ref b :: rest) (hrest : (rest.map fun v => v.category).sum ≤ 8) (hdg : decode cc pc = .ok (.invokespecial index, 3)) (hf : cells + rm.cells ≤ R.cells ∧ slots + rm.slots ≤ R.slots)
    (kk : ∀ (u : S) (H1 : Heap) (locs1 : List Loc), P u → va_P D vwCl (out u) H1 → va_D A (out u) → va_S A H0 H1 locs1 → W p l e R s m args below meth c H1 locs1 (cells + rm.cells) (slots + rm.slots) Q (F0 m (pc + 3) ls ((rv u).toList ++ rest))) : W p l e R s m args below meth c H locs cells slots Q (F0 m pc ls st) := by
  subst hst
  have hPw : va_P D vwCl w0 H := by
    obtain ⟨wr, g1, -⟩ := hE
    exact (xP_app.mp (xP_perm g1 hP)).1
  have hDw : va_D (fun _ => True) w0 := by
    obtain ⟨wr, g1, -⟩ := hE
    have h := xD_iff.mp (xD_perm g1 hD)
    rw [List.map_append, List.nodup_append] at h
    exact xD_iff.mpr ⟨h.1.1, fun _ _ => trivial⟩
  refine xgo (va_runI (As := As) (rest := rest) F (hM H.size) cw ⟨xblind, fun U hU hW => ⟨rfl, by rw [hU], by rw [hU]; exact hPw, hK.warmed hW, hDw⟩⟩ rfl hn hsize rfl (lv_room hrest) hdg hf) hP hD hS hA hE kk
end XCALL
end
section
/-! ===== what the system does, in numbers ===== -/
def mn (x y : Int32) : Int32 := if y < x then y else x
def mx (x y : Int32) : Int32 := if x < y then y else x
-- a store: 0 flour, 1 weevils, 2 eaten; a baker: 0 store, 1 mark, 2 ration, 3 at hand, 4 weight, 5 shelf, 6 sold, 7 barred
def sTake (f : Iu) (n : Int32) : Iu := upd f 0 (f 0 + mn n (900 - f 0))
def sGive (f : Iu) (n : Int32) : Iu := upd f 0 (f 0 - mn n (f 0))
def sFed (f : Iu) : Iu := upd (upd f 0 (f 0 - mn (f 1) (f 0))) 2 (f 2 + mn (f 1) (f 0))
def sFeed (f : Iu) : Iu := upd (sFed f) 1 (if 0 < f 0 - mn (f 1) (f 0) then mn (f 1 + f 1 / 4 + 1) 50 else f 1 / 2)
def sSmoke (f : Iu) : Iu := upd (upd f 1 0) 0 (f 0 - f 0 / 10)
def bLoaves (b : Iu) : Int32 := mn (b 3 / b 4) 4
def bBake (b : Iu) : Iu := if b 7 = 0 ∧ 0 < b 4 then upd (upd b 3 (b 3 - bLoaves b * b 4)) 5 (b 5 + bLoaves b) else b
def bSell (b : Iu) (n : Int32) : Iu := upd (upd b 5 (b 5 - mn n (b 5))) 6 (b 6 + mn n (b 5))
def bLight (b : Iu) : Int32 := if b 4 < 10 then 1 else 0
def bInspect (b : Iu) : Iu := if b 4 < 10 then upd (upd b 5 (b 5 - 1)) 7 1 else upd b 5 (b 5 - 1)
def bForgive (b : Iu) : Iu := upd (upd b 7 0) 4 (mx (b 4) 10)
def bFact (b : Iu) (w : Nat) : Int32 := if w = 7 then (if b 7 = 0 then 0 else 1) else b w
-- their cells
abbrev cSt (f : Iu) : va_E := .inr (1, [.int (f 0), .int (f 1), .int (f 2)])
abbrev cBk (b : Iu) : va_E := .inr (0, [.int (b 0), .int (b 1), .int (b 2), .int (b 3), .int (b 4), .int (b 5), .int (b 6), .int (b 7)])
theorem n_bool {v : Int32} (h : v = 0 ∨ v = 1) : narrow .boolean (.int v) = .int v ∧ fits .boolean (.int v) = true := by
  rcases h with rfl | rfl <;> exact ⟨by decide, by decide⟩
end
section
/-! ===== Store and Baker: a contract a method (laid by gen09.py) ===== -/
set_option maxHeartbeats 4000000 in
set_option maxRecDepth 100000 in
/-- Store(flour, weevils) -/
theorem c_X1_init (l : Launch) (D : va_G) (cy : Nat → ClassId) (h : Nat) (p0 p1 : Int32) : xM l D cy yX1_init wsX1_init ({ frames := 1, cells := 0, slots := 0, locals := 12 } : Room) [.ref h, .int p0, .int p1] ([(h, cSt (fun _ => 0))]) (fun _ : Unit => none) (fun _ => True) (fun _ => [(h, cSt (upd (upd (fun _ => 0) 0 p0) 1 p1))]) := by
  refine xM.of cX1_init 3 none RX1 (by decide +kernel) rfl rfl (Nat.le_of_ble_eq_true rfl) ?_
  intro p e s m below meth c A ls hx hb hr hts hown hlocks hml hin hK hA hP hD hS hl
  have hl : lv_has ls 3 [(0, .ref h), (1, .int p0), (2, .int p1)] := hl
  have hinX1 : ∀ w ∈ wsX10, w ∈ wsX1_init := fun _ h => List.mem_cons_of_mem _ (List.mem_append_right _ h)
  refine lv_aload_n hx hb dX1_init_0 rfl (lv_at hl 0 rfl) ?_
  refine W.objInit hx hb hown (hts (.methodLink RX1 3 objectInit) (List.mem_of_getElem? (i := 1) rfl)) (hts (.instanceMethod objectInit) (List.mem_of_getElem? (i := 2) rfl)) (hts (.code objectInit ⟨#[0xb1]⟩ 1 none) (List.mem_of_getElem? (i := 3) rfl)) rfl (by rw [hml]; exact hl.1) rfl dX1_init_1 (Nat.le_of_ble_eq_true rfl) (Nat.le_of_ble_eq_true rfl) ?_
  refine W.eq (g2 := F0 m 4 ls []) rfl ?_
  refine lv_aload_n hx hb dX1_init_4 rfl (lv_at hl 0 rfl) ?_
  refine lv_iload_n hx hb dX1_init_5 rfl (lv_at hl 1 rfl) ?_
  refine va_put (D := D) (ci := 1) (v := .int p0) (ty := .int) (C := RX1) (T := TX1) (N := 3) hx hb hts hinX1 tyX1 tyX1_ok nmX1 hown hK.1 hP hD hS 0 rfl rfl 0 (by decide) (hts (.fieldLink RX1 9 "LoafMarks$Store" "flour" "I") (List.mem_of_getElem? (i := 4) rfl)) (fun _ h9 => h9) rfl (by decide +kernel) rfl rfl (Nat.le_of_ble_eq_true rfl) dX1_init_6 (fun H locs hP hD hS => ?_)
  have hP : va_P D vwCl ([(h, cSt (upd (fun _ => 0) 0 p0))]) H := hP
  have hD : va_D A ([(h, cSt (upd (fun _ => 0) 0 p0))]) := hD
  refine lv_aload_n hx hb dX1_init_9 rfl (lv_at hl 0 rfl) ?_
  refine lv_iload_n hx hb dX1_init_10 rfl (lv_at hl 2 rfl) ?_
  refine va_put (D := D) (ci := 1) (v := .int p1) (ty := .int) (C := RX1) (T := TX1) (N := 3) hx hb hts hinX1 tyX1 tyX1_ok nmX1 hown hK.1 hP hD hS 0 rfl rfl 1 (by decide) (hts (.fieldLink RX1 15 "LoafMarks$Store" "weevils" "I") (List.mem_of_getElem? (i := 5) rfl)) (fun _ h9 => h9) rfl (by decide +kernel) rfl rfl (Nat.le_of_ble_eq_true rfl) dX1_init_11 (fun H locs hP hD hS => ?_)
  have hP : va_P D vwCl ([(h, cSt (upd (upd (fun _ => 0) 0 p0) 1 p1))]) H := hP
  have hD : va_D A ([(h, cSt (upd (upd (fun _ => 0) 0 p0) 1 p1))]) := hD
  exact xrv () hx hb hr hlocks hS (Nat.le_of_ble_eq_true rfl) (Nat.le_of_ble_eq_true rfl) dX1_init_14 hP hD rfl trivial

set_option maxHeartbeats 4000000 in
set_option maxRecDepth 100000 in
/-- Baker(store, mark, weight, ration) -/
theorem c_X0_init (l : Launch) (D : va_G) (cy : Nat → ClassId) (h : Nat) (p0 p1 p2 p3 : Int32) : xM l D cy yX0_init wsX0_init ({ frames := 1, cells := 0, slots := 0, locals := 12 } : Room) [.ref h, .int p0, .int p1, .int p2, .int p3] ([(h, cBk (fun _ => 0))]) (fun _ : Unit => none) (fun _ => True) (fun _ => [(h, cBk (upd (upd (upd (upd (fun _ => 0) 0 p0) 1 p1) 4 p2) 2 p3))]) := by
  refine xM.of cX0_init 5 none RX0 (by decide +kernel) rfl rfl (Nat.le_of_ble_eq_true rfl) ?_
  intro p e s m below meth c A ls hx hb hr hts hown hlocks hml hin hK hA hP hD hS hl
  have hl : lv_has ls 5 [(0, .ref h), (1, .int p0), (2, .int p1), (3, .int p2), (4, .int p3)] := hl
  have hinX0 : ∀ w ∈ wsX00, w ∈ wsX0_init := fun _ h => List.mem_cons_of_mem _ (List.mem_append_right _ h)
  refine lv_aload_n hx hb dX0_init_0 rfl (lv_at hl 0 rfl) ?_
  refine W.objInit hx hb hown (hts (.methodLink RX0 3 objectInit) (List.mem_of_getElem? (i := 1) rfl)) (hts (.instanceMethod objectInit) (List.mem_of_getElem? (i := 2) rfl)) (hts (.code objectInit ⟨#[0xb1]⟩ 1 none) (List.mem_of_getElem? (i := 3) rfl)) rfl (by rw [hml]; exact hl.1) rfl dX0_init_1 (Nat.le_of_ble_eq_true rfl) (Nat.le_of_ble_eq_true rfl) ?_
  refine W.eq (g2 := F0 m 4 ls []) rfl ?_
  refine lv_aload_n hx hb dX0_init_4 rfl (lv_at hl 0 rfl) ?_
  refine lv_iload_n hx hb dX0_init_5 rfl (lv_at hl 1 rfl) ?_
  refine va_put (D := D) (ci := 0) (v := .int p0) (ty := .int) (C := RX0) (T := TX0) (N := 8) hx hb hts hinX0 tyX0 tyX0_ok nmX0 hown hK.1 hP hD hS 0 rfl rfl 0 (by decide) (hts (.fieldLink RX0 9 "LoafMarks$Baker" "storeNumber" "I") (List.mem_of_getElem? (i := 4) rfl)) (fun _ h9 => h9) rfl (by decide +kernel) rfl rfl (Nat.le_of_ble_eq_true rfl) dX0_init_6 (fun H locs hP hD hS => ?_)
  have hP : va_P D vwCl ([(h, cBk (upd (fun _ => 0) 0 p0))]) H := hP
  have hD : va_D A ([(h, cBk (upd (fun _ => 0) 0 p0))]) := hD
  refine lv_aload_n hx hb dX0_init_9 rfl (lv_at hl 0 rfl) ?_
  refine lv_iload_n hx hb dX0_init_10 rfl (lv_at hl 2 rfl) ?_
  refine va_put (D := D) (ci := 0) (v := .int p1) (ty := .int) (C := RX0) (T := TX0) (N := 8) hx hb hts hinX0 tyX0 tyX0_ok nmX0 hown hK.1 hP hD hS 0 rfl rfl 1 (by decide) (hts (.fieldLink RX0 15 "LoafMarks$Baker" "mark" "I") (List.mem_of_getElem? (i := 5) rfl)) (fun _ h9 => h9) rfl (by decide +kernel) rfl rfl (Nat.le_of_ble_eq_true rfl) dX0_init_11 (fun H locs hP hD hS => ?_)
  have hP : va_P D vwCl ([(h, cBk (upd (upd (fun _ => 0) 0 p0) 1 p1))]) H := hP
  have hD : va_D A ([(h, cBk (upd (upd (fun _ => 0) 0 p0) 1 p1))]) := hD
  refine lv_aload_n hx hb dX0_init_14 rfl (lv_at hl 0 rfl) ?_
  refine lv_iload_n hx hb dX0_init_15 rfl (lv_at hl 3 rfl) ?_
  refine va_put (D := D) (ci := 0) (v := .int p2) (ty := .int) (C := RX0) (T := TX0) (N := 8) hx hb hts hinX0 tyX0 tyX0_ok nmX0 hown hK.1 hP hD hS 0 rfl rfl 4 (by decide) (hts (.fieldLink RX0 18 "LoafMarks$Baker" "weight" "I") (List.mem_of_getElem? (i := 6) rfl)) (fun _ h9 => h9) rfl (by decide +kernel) rfl rfl (Nat.le_of_ble_eq_true rfl) dX0_init_16 (fun H locs hP hD hS => ?_)
  have hP : va_P D vwCl ([(h, cBk (upd (upd (upd (fun _ => 0) 0 p0) 1 p1) 4 p2))]) H := hP
  have hD : va_D A ([(h, cBk (upd (upd (upd (fun _ => 0) 0 p0) 1 p1) 4 p2))]) := hD
  refine lv_aload_n hx hb dX0_init_19 rfl (lv_at hl 0 rfl) ?_
  refine lv_iload hx hb dX0_init_20 (lv_at hl 4 rfl) ?_
  refine va_put (D := D) (ci := 0) (v := .int p3) (ty := .int) (C := RX0) (T := TX0) (N := 8) hx hb hts hinX0 tyX0 tyX0_ok nmX0 hown hK.1 hP hD hS 0 rfl rfl 2 (by decide) (hts (.fieldLink RX0 21 "LoafMarks$Baker" "ration" "I") (List.mem_of_getElem? (i := 7) rfl)) (fun _ h9 => h9) rfl (by decide +kernel) rfl rfl (Nat.le_of_ble_eq_true rfl) dX0_init_22 (fun H locs hP hD hS => ?_)
  have hP : va_P D vwCl ([(h, cBk (upd (upd (upd (upd (fun _ => 0) 0 p0) 1 p1) 4 p2) 2 p3))]) H := hP
  have hD : va_D A ([(h, cBk (upd (upd (upd (upd (fun _ => 0) 0 p0) 1 p1) 4 p2) 2 p3))]) := hD
  exact xrv () hx hb hr hlocks hS (Nat.le_of_ble_eq_true rfl) (Nat.le_of_ble_eq_true rfl) dX0_init_25 hP hD rfl trivial

set_option maxHeartbeats 4000000 in
set_option maxRecDepth 100000 in
/-- becomeLike: the fields are the other one's -/
theorem c_X1_becomeLike (l : Launch) (D : va_G) (cy : Nat → ClassId) (h o : Nat) (f g : Iu) : xM l D cy yX1_becomeLike wsX1_becomeLike ({ frames := 0, cells := 0, slots := 0, locals := 0 } : Room) [.ref h, .ref o] ([(h, cSt f), (o, cSt g)]) (fun _ : Unit => none) (fun _ => True) (fun _ => [(h, cSt g), (o, cSt g)]) := by
  refine xM.of cX1_becomeLike 2 none RX1 (by decide +kernel) rfl rfl (Nat.le_of_ble_eq_true rfl) ?_
  intro p e s m below meth c A ls hx hb hr hts hown hlocks hml hin hK hA hP hD hS hl
  have hl : lv_has ls 2 [(0, .ref h), (1, .ref o)] := hl
  have hinX1 : ∀ w ∈ wsX10, w ∈ wsX1_becomeLike := fun _ h => List.mem_cons_of_mem _ (List.mem_append_right _ h)
  refine lv_aload_n hx hb dX1_becomeLike_0 rfl (lv_at hl 0 rfl) ?_
  refine lv_aload_n hx hb dX1_becomeLike_1 rfl (lv_at hl 1 rfl) ?_
  refine va_get (D := D) (ci := 1) (v := .int (g 0)) (C := RX1) (T := TX1) (N := 3) hx hb hts hinX1 hown hK.1 hP 1 rfl rfl 0 (by decide) (hts (.fieldLink RX1 9 "LoafMarks$Store" "flour" "I") (List.mem_of_getElem? (i := 1) rfl)) (fun _ h9 => h9) rfl dX1_becomeLike_2 ?_
  refine va_put (D := D) (ci := 1) (v := .int (g 0)) (ty := .int) (C := RX1) (T := TX1) (N := 3) hx hb hts hinX1 tyX1 tyX1_ok nmX1 hown hK.1 hP hD hS 0 rfl rfl 0 (by decide) (hts (.fieldLink RX1 9 "LoafMarks$Store" "flour" "I") (List.mem_of_getElem? (i := 1) rfl)) (fun _ h9 => h9) rfl (by decide +kernel) rfl rfl (Nat.le_of_ble_eq_true rfl) dX1_becomeLike_5 (fun H locs hP hD hS => ?_)
  have hP : va_P D vwCl ([(h, cSt (upd f 0 (g 0))), (o, cSt g)]) H := hP
  have hD : va_D A ([(h, cSt (upd f 0 (g 0))), (o, cSt g)]) := hD
  refine lv_aload_n hx hb dX1_becomeLike_8 rfl (lv_at hl 0 rfl) ?_
  refine lv_aload_n hx hb dX1_becomeLike_9 rfl (lv_at hl 1 rfl) ?_
  refine va_get (D := D) (ci := 1) (v := .int (g 1)) (C := RX1) (T := TX1) (N := 3) hx hb hts hinX1 hown hK.1 hP 1 rfl rfl 1 (by decide) (hts (.fieldLink RX1 15 "LoafMarks$Store" "weevils" "I") (List.mem_of_getElem? (i := 2) rfl)) (fun _ h9 => h9) rfl dX1_becomeLike_10 ?_
  refine va_put (D := D) (ci := 1) (v := .int (g 1)) (ty := .int) (C := RX1) (T := TX1) (N := 3) hx hb hts hinX1 tyX1 tyX1_ok nmX1 hown hK.1 hP hD hS 0 rfl rfl 1 (by decide) (hts (.fieldLink RX1 15 "LoafMarks$Store" "weevils" "I") (List.mem_of_getElem? (i := 2) rfl)) (fun _ h9 => h9) rfl (by decide +kernel) rfl rfl (Nat.le_of_ble_eq_true rfl) dX1_becomeLike_13 (fun H locs hP hD hS => ?_)
  have hP : va_P D vwCl ([(h, cSt (upd (upd f 0 (g 0)) 1 (g 1))), (o, cSt g)]) H := hP
  have hD : va_D A ([(h, cSt (upd (upd f 0 (g 0)) 1 (g 1))), (o, cSt g)]) := hD
  refine lv_aload_n hx hb dX1_becomeLike_16 rfl (lv_at hl 0 rfl) ?_
  refine lv_aload_n hx hb dX1_becomeLike_17 rfl (lv_at hl 1 rfl) ?_
  refine va_get (D := D) (ci := 1) (v := .int (g 2)) (C := RX1) (T := TX1) (N := 3) hx hb hts hinX1 hown hK.1 hP 1 rfl rfl 2 (by decide) (hts (.fieldLink RX1 18 "LoafMarks$Store" "eaten" "I") (List.mem_of_getElem? (i := 3) rfl)) (fun _ h9 => h9) rfl dX1_becomeLike_18 ?_
  refine va_put (D := D) (ci := 1) (v := .int (g 2)) (ty := .int) (C := RX1) (T := TX1) (N := 3) hx hb hts hinX1 tyX1 tyX1_ok nmX1 hown hK.1 hP hD hS 0 rfl rfl 2 (by decide) (hts (.fieldLink RX1 18 "LoafMarks$Store" "eaten" "I") (List.mem_of_getElem? (i := 3) rfl)) (fun _ h9 => h9) rfl (by decide +kernel) rfl rfl (Nat.le_of_ble_eq_true rfl) dX1_becomeLike_21 (fun H locs hP hD hS => ?_)
  have hP : va_P D vwCl ([(h, cSt (upd (upd (upd f 0 (g 0)) 1 (g 1)) 2 (g 2))), (o, cSt g)]) H := hP
  have hD : va_D A ([(h, cSt (upd (upd (upd f 0 (g 0)) 1 (g 1)) 2 (g 2))), (o, cSt g)]) := hD
  exact xrv () hx hb hr hlocks hS (Nat.le_of_ble_eq_true rfl) (Nat.le_of_ble_eq_true rfl) dX1_becomeLike_24 hP hD rfl trivial

set_option maxHeartbeats 4000000 in
set_option maxRecDepth 100000 in
/-- becomeLike: the fields are the other one's -/
theorem c_X0_becomeLike (l : Launch) (D : va_G) (cy : Nat → ClassId) (h o : Nat) (f g : Iu) (hg : g 7 = 0 ∨ g 7 = 1) : xM l D cy yX0_becomeLike wsX0_becomeLike ({ frames := 0, cells := 0, slots := 0, locals := 0 } : Room) [.ref h, .ref o] ([(h, cBk f), (o, cBk g)]) (fun _ : Unit => none) (fun _ => True) (fun _ => [(h, cBk g), (o, cBk g)]) := by
  refine xM.of cX0_becomeLike 2 none RX0 (by decide +kernel) rfl rfl (Nat.le_of_ble_eq_true rfl) ?_
  intro p e s m below meth c A ls hx hb hr hts hown hlocks hml hin hK hA hP hD hS hl
  have hl : lv_has ls 2 [(0, .ref h), (1, .ref o)] := hl
  have hinX0 : ∀ w ∈ wsX00, w ∈ wsX0_becomeLike := fun _ h => List.mem_cons_of_mem _ (List.mem_append_right _ h)
  refine lv_aload_n hx hb dX0_becomeLike_0 rfl (lv_at hl 0 rfl) ?_
  refine lv_aload_n hx hb dX0_becomeLike_1 rfl (lv_at hl 1 rfl) ?_
  refine va_get (D := D) (ci := 0) (v := .int (g 0)) (C := RX0) (T := TX0) (N := 8) hx hb hts hinX0 hown hK.1 hP 1 rfl rfl 0 (by decide) (hts (.fieldLink RX0 9 "LoafMarks$Baker" "storeNumber" "I") (List.mem_of_getElem? (i := 1) rfl)) (fun _ h9 => h9) rfl dX0_becomeLike_2 ?_
  refine va_put (D := D) (ci := 0) (v := .int (g 0)) (ty := .int) (C := RX0) (T := TX0) (N := 8) hx hb hts hinX0 tyX0 tyX0_ok nmX0 hown hK.1 hP hD hS 0 rfl rfl 0 (by decide) (hts (.fieldLink RX0 9 "LoafMarks$Baker" "storeNumber" "I") (List.mem_of_getElem? (i := 1) rfl)) (fun _ h9 => h9) rfl (by decide +kernel) rfl rfl (Nat.le_of_ble_eq_true rfl) dX0_becomeLike_5 (fun H locs hP hD hS => ?_)
  have hP : va_P D vwCl ([(h, cBk (upd f 0 (g 0))), (o, cBk g)]) H := hP
  have hD : va_D A ([(h, cBk (upd f 0 (g 0))), (o, cBk g)]) := hD
  refine lv_aload_n hx hb dX0_becomeLike_8 rfl (lv_at hl 0 rfl) ?_
  refine lv_aload_n hx hb dX0_becomeLike_9 rfl (lv_at hl 1 rfl) ?_
  refine va_get (D := D) (ci := 0) (v := .int (g 1)) (C := RX0) (T := TX0) (N := 8) hx hb hts hinX0 hown hK.1 hP 1 rfl rfl 1 (by decide) (hts (.fieldLink RX0 15 "LoafMarks$Baker" "mark" "I") (List.mem_of_getElem? (i := 2) rfl)) (fun _ h9 => h9) rfl dX0_becomeLike_10 ?_
  refine va_put (D := D) (ci := 0) (v := .int (g 1)) (ty := .int) (C := RX0) (T := TX0) (N := 8) hx hb hts hinX0 tyX0 tyX0_ok nmX0 hown hK.1 hP hD hS 0 rfl rfl 1 (by decide) (hts (.fieldLink RX0 15 "LoafMarks$Baker" "mark" "I") (List.mem_of_getElem? (i := 2) rfl)) (fun _ h9 => h9) rfl (by decide +kernel) rfl rfl (Nat.le_of_ble_eq_true rfl) dX0_becomeLike_13 (fun H locs hP hD hS => ?_)
  have hP : va_P D vwCl ([(h, cBk (upd (upd f 0 (g 0)) 1 (g 1))), (o, cBk g)]) H := hP
  have hD : va_D A ([(h, cBk (upd (upd f 0 (g 0)) 1 (g 1))), (o, cBk g)]) := hD
  refine lv_aload_n hx hb dX0_becomeLike_16 rfl (lv_at hl 0 rfl) ?_
  refine lv_aload_n hx hb dX0_becomeLike_17 rfl (lv_at hl 1 rfl) ?_
  refine va_get (D := D) (ci := 0) (v := .int (g 2)) (C := RX0) (T := TX0) (N := 8) hx hb hts hinX0 hown hK.1 hP 1 rfl rfl 2 (by decide) (hts (.fieldLink RX0 21 "LoafMarks$Baker" "ration" "I") (List.mem_of_getElem? (i := 3) rfl)) (fun _ h9 => h9) rfl dX0_becomeLike_18 ?_
  refine va_put (D := D) (ci := 0) (v := .int (g 2)) (ty := .int) (C := RX0) (T := TX0) (N := 8) hx hb hts hinX0 tyX0 tyX0_ok nmX0 hown hK.1 hP hD hS 0 rfl rfl 2 (by decide) (hts (.fieldLink RX0 21 "LoafMarks$Baker" "ration" "I") (List.mem_of_getElem? (i := 3) rfl)) (fun _ h9 => h9) rfl (by decide +kernel) rfl rfl (Nat.le_of_ble_eq_true rfl) dX0_becomeLike_21 (fun H locs hP hD hS => ?_)
  have hP : va_P D vwCl ([(h, cBk (upd (upd (upd f 0 (g 0)) 1 (g 1)) 2 (g 2))), (o, cBk g)]) H := hP
  have hD : va_D A ([(h, cBk (upd (upd (upd f 0 (g 0)) 1 (g 1)) 2 (g 2))), (o, cBk g)]) := hD
  refine lv_aload_n hx hb dX0_becomeLike_24 rfl (lv_at hl 0 rfl) ?_
  refine lv_aload_n hx hb dX0_becomeLike_25 rfl (lv_at hl 1 rfl) ?_
  refine va_get (D := D) (ci := 0) (v := .int (g 3)) (C := RX0) (T := TX0) (N := 8) hx hb hts hinX0 hown hK.1 hP 1 rfl rfl 3 (by decide) (hts (.fieldLink RX0 24 "LoafMarks$Baker" "atHand" "I") (List.mem_of_getElem? (i := 4) rfl)) (fun _ h9 => h9) rfl dX0_becomeLike_26 ?_
  refine va_put (D := D) (ci := 0) (v := .int (g 3)) (ty := .int) (C := RX0) (T := TX0) (N := 8) hx hb hts hinX0 tyX0 tyX0_ok nmX0 hown hK.1 hP hD hS 0 rfl rfl 3 (by decide) (hts (.fieldLink RX0 24 "LoafMarks$Baker" "atHand" "I") (List.mem_of_getElem? (i := 4) rfl)) (fun _ h9 => h9) rfl (by decide +kernel) rfl rfl (Nat.le_of_ble_eq_true rfl) dX0_becomeLike_29 (fun H locs hP hD hS => ?_)
  have hP : va_P D vwCl ([(h, cBk (upd (upd (upd (upd f 0 (g 0)) 1 (g 1)) 2 (g 2)) 3 (g 3))), (o, cBk g)]) H := hP
  have hD : va_D A ([(h, cBk (upd (upd (upd (upd f 0 (g 0)) 1 (g 1)) 2 (g 2)) 3 (g 3))), (o, cBk g)]) := hD
  refine lv_aload_n hx hb dX0_becomeLike_32 rfl (lv_at hl 0 rfl) ?_
  refine lv_aload_n hx hb dX0_becomeLike_33 rfl (lv_at hl 1 rfl) ?_
  refine va_get (D := D) (ci := 0) (v := .int (g 4)) (C := RX0) (T := TX0) (N := 8) hx hb hts hinX0 hown hK.1 hP 1 rfl rfl 4 (by decide) (hts (.fieldLink RX0 18 "LoafMarks$Baker" "weight" "I") (List.mem_of_getElem? (i := 5) rfl)) (fun _ h9 => h9) rfl dX0_becomeLike_34 ?_
  refine va_put (D := D) (ci := 0) (v := .int (g 4)) (ty := .int) (C := RX0) (T := TX0) (N := 8) hx hb hts hinX0 tyX0 tyX0_ok nmX0 hown hK.1 hP hD hS 0 rfl rfl 4 (by decide) (hts (.fieldLink RX0 18 "LoafMarks$Baker" "weight" "I") (List.mem_of_getElem? (i := 5) rfl)) (fun _ h9 => h9) rfl (by decide +kernel) rfl rfl (Nat.le_of_ble_eq_true rfl) dX0_becomeLike_37 (fun H locs hP hD hS => ?_)
  have hP : va_P D vwCl ([(h, cBk (upd (upd (upd (upd (upd f 0 (g 0)) 1 (g 1)) 2 (g 2)) 3 (g 3)) 4 (g 4))), (o, cBk g)]) H := hP
  have hD : va_D A ([(h, cBk (upd (upd (upd (upd (upd f 0 (g 0)) 1 (g 1)) 2 (g 2)) 3 (g 3)) 4 (g 4))), (o, cBk g)]) := hD
  refine lv_aload_n hx hb dX0_becomeLike_40 rfl (lv_at hl 0 rfl) ?_
  refine lv_aload_n hx hb dX0_becomeLike_41 rfl (lv_at hl 1 rfl) ?_
  refine va_get (D := D) (ci := 0) (v := .int (g 5)) (C := RX0) (T := TX0) (N := 8) hx hb hts hinX0 hown hK.1 hP 1 rfl rfl 5 (by decide) (hts (.fieldLink RX0 27 "LoafMarks$Baker" "shelf" "I") (List.mem_of_getElem? (i := 6) rfl)) (fun _ h9 => h9) rfl dX0_becomeLike_42 ?_
  refine va_put (D := D) (ci := 0) (v := .int (g 5)) (ty := .int) (C := RX0) (T := TX0) (N := 8) hx hb hts hinX0 tyX0 tyX0_ok nmX0 hown hK.1 hP hD hS 0 rfl rfl 5 (by decide) (hts (.fieldLink RX0 27 "LoafMarks$Baker" "shelf" "I") (List.mem_of_getElem? (i := 6) rfl)) (fun _ h9 => h9) rfl (by decide +kernel) rfl rfl (Nat.le_of_ble_eq_true rfl) dX0_becomeLike_45 (fun H locs hP hD hS => ?_)
  have hP : va_P D vwCl ([(h, cBk (upd (upd (upd (upd (upd (upd f 0 (g 0)) 1 (g 1)) 2 (g 2)) 3 (g 3)) 4 (g 4)) 5 (g 5))), (o, cBk g)]) H := hP
  have hD : va_D A ([(h, cBk (upd (upd (upd (upd (upd (upd f 0 (g 0)) 1 (g 1)) 2 (g 2)) 3 (g 3)) 4 (g 4)) 5 (g 5))), (o, cBk g)]) := hD
  refine lv_aload_n hx hb dX0_becomeLike_48 rfl (lv_at hl 0 rfl) ?_
  refine lv_aload_n hx hb dX0_becomeLike_49 rfl (lv_at hl 1 rfl) ?_
  refine va_get (D := D) (ci := 0) (v := .int (g 6)) (C := RX0) (T := TX0) (N := 8) hx hb hts hinX0 hown hK.1 hP 1 rfl rfl 6 (by decide) (hts (.fieldLink RX0 30 "LoafMarks$Baker" "sold" "I") (List.mem_of_getElem? (i := 7) rfl)) (fun _ h9 => h9) rfl dX0_becomeLike_50 ?_
  refine va_put (D := D) (ci := 0) (v := .int (g 6)) (ty := .int) (C := RX0) (T := TX0) (N := 8) hx hb hts hinX0 tyX0 tyX0_ok nmX0 hown hK.1 hP hD hS 0 rfl rfl 6 (by decide) (hts (.fieldLink RX0 30 "LoafMarks$Baker" "sold" "I") (List.mem_of_getElem? (i := 7) rfl)) (fun _ h9 => h9) rfl (by decide +kernel) rfl rfl (Nat.le_of_ble_eq_true rfl) dX0_becomeLike_53 (fun H locs hP hD hS => ?_)
  have hP : va_P D vwCl ([(h, cBk (upd (upd (upd (upd (upd (upd (upd f 0 (g 0)) 1 (g 1)) 2 (g 2)) 3 (g 3)) 4 (g 4)) 5 (g 5)) 6 (g 6))), (o, cBk g)]) H := hP
  have hD : va_D A ([(h, cBk (upd (upd (upd (upd (upd (upd (upd f 0 (g 0)) 1 (g 1)) 2 (g 2)) 3 (g 3)) 4 (g 4)) 5 (g 5)) 6 (g 6))), (o, cBk g)]) := hD
  refine lv_aload_n hx hb dX0_becomeLike_56 rfl (lv_at hl 0 rfl) ?_
  refine lv_aload_n hx hb dX0_becomeLike_57 rfl (lv_at hl 1 rfl) ?_
  refine va_get (D := D) (ci := 0) (v := .int (g 7)) (C := RX0) (T := TX0) (N := 8) hx hb hts hinX0 hown hK.1 hP 1 rfl rfl 7 (by decide) (hts (.fieldLink RX0 33 "LoafMarks$Baker" "barred" "Z") (List.mem_of_getElem? (i := 8) rfl)) (fun _ h9 => h9) rfl dX0_becomeLike_58 ?_
  refine va_put (D := D) (ci := 0) (v := .int (g 7)) (ty := .boolean) (C := RX0) (T := TX0) (N := 8) hx hb hts hinX0 tyX0 tyX0_ok nmX0 hown hK.1 hP hD hS 0 rfl rfl 7 (by decide) (hts (.fieldLink RX0 33 "LoafMarks$Baker" "barred" "Z") (List.mem_of_getElem? (i := 8) rfl)) (fun _ h9 => h9) rfl (by decide +kernel) (n_bool hg).1 (n_bool hg).2 (Nat.le_of_ble_eq_true rfl) dX0_becomeLike_61 (fun H locs hP hD hS => ?_)
  have hP : va_P D vwCl ([(h, cBk (upd (upd (upd (upd (upd (upd (upd (upd f 0 (g 0)) 1 (g 1)) 2 (g 2)) 3 (g 3)) 4 (g 4)) 5 (g 5)) 6 (g 6)) 7 (g 7))), (o, cBk g)]) H := hP
  have hD : va_D A ([(h, cBk (upd (upd (upd (upd (upd (upd (upd (upd f 0 (g 0)) 1 (g 1)) 2 (g 2)) 3 (g 3)) 4 (g 4)) 5 (g 5)) 6 (g 6)) 7 (g 7))), (o, cBk g)]) := hD
  exact xrv () hx hb hr hlocks hS (Nat.le_of_ble_eq_true rfl) (Nat.le_of_ble_eq_true rfl) dX0_becomeLike_64 hP hD rfl trivial

set_option maxHeartbeats 4000000 in
set_option maxRecDepth 100000 in
/-- takeIn: what there is room for -/
theorem c_X1_takeIn (l : Launch) (D : va_G) (cy : Nat → ClassId) (h : Nat) (f : Iu) (p0 : Int32) : xM l D cy yX1_takeIn wsX1_takeIn ({ frames := 1, cells := 0, slots := 0, locals := 20 } : Room) [.ref h, .int p0] ([(h, cSt f)]) (fun _ : Unit => some (.int (p0 - mn p0 (900 - f 0)))) (fun _ => True) (fun _ => [(h, cSt (sTake f p0))]) := by
  refine xM.of cX1_takeIn 3 (some .int) RX1 (by decide +kernel) rfl rfl (Nat.le_of_ble_eq_true rfl) ?_
  intro p e s m below meth c A ls hx hb hr hts hown hlocks hml hin hK hA hP hD hS hl
  have hl : lv_has ls 3 [(0, .ref h), (1, .int p0)] := hl
  have hinX1 : ∀ w ∈ wsX10, w ∈ wsX1_takeIn := fun _ h => List.mem_cons_of_mem _ (List.mem_append_right _ h)
  refine lv_iload_n hx hb dX1_takeIn_0 rfl (lv_at hl 1 rfl) ?_
  refine lv_sipush (v := 900) hx hb dX1_takeIn_1 (by decide) ?_
  refine lv_aload_n hx hb dX1_takeIn_4 rfl (lv_at hl 0 rfl) ?_
  refine va_get (D := D) (ci := 1) (v := .int (f 0)) (C := RX1) (T := TX1) (N := 3) hx hb hts hinX1 hown hK.1 hP 0 rfl rfl 0 (by decide) (hts (.fieldLink RX1 9 "LoafMarks$Store" "flour" "I") (List.mem_of_getElem? (i := 1) rfl)) (fun _ h9 => h9) rfl dX1_takeIn_5 ?_
  refine lv_isub hx hb dX1_takeIn_8 ?_
  refine va_mmin hx hb (hml.trans hl.1.symm) hown (hts (.methodLink RX1 21 Lib.Math.min.name) (List.mem_of_getElem? (i := 2) rfl)) (hts (.static Lib.Math.min.name) (List.mem_of_getElem? (i := 3) rfl)) (hts (.initialized "java/lang/Math") (List.mem_of_getElem? (i := 4) rfl)) (hts (.code Lib.Math.min.name Lib.Math.min.code 2 (some .int)) (List.mem_of_getElem? (i := 5) rfl)) (Nat.le_of_ble_eq_true rfl) (Nat.le_of_ble_eq_true rfl) (Nat.le_of_ble_eq_true rfl) (Nat.le_of_ble_eq_true rfl) dX1_takeIn_9 ?_
  refine W.eq (g2 := F0 m 12 ls [.int (mn p0 (900 - (f 0)))]) rfl ?_
  refine lv_istore_n (lv' := [(2, .int (mn p0 (900 - (f 0)))), (0, .ref h), (1, .int p0)]) hx hb dX1_takeIn_12 rfl hl (by decide) rfl (fun ls hl => ?_)
  refine lv_aload_n hx hb dX1_takeIn_13 rfl (lv_at hl 1 rfl) ?_
  refine lv_dup hx hb dX1_takeIn_14 rfl ?_
  refine va_get (D := D) (ci := 1) (v := .int (f 0)) (C := RX1) (T := TX1) (N := 3) hx hb hts hinX1 hown hK.1 hP 0 rfl rfl 0 (by decide) (hts (.fieldLink RX1 9 "LoafMarks$Store" "flour" "I") (List.mem_of_getElem? (i := 1) rfl)) (fun _ h9 => h9) rfl dX1_takeIn_15 ?_
  refine lv_iload_n hx hb dX1_takeIn_18 rfl (lv_at hl 0 rfl) ?_
  refine lv_iadd hx hb dX1_takeIn_19 ?_
  refine va_put (D := D) (ci := 1) (v := .int ((f 0) + (mn p0 (900 - (f 0))))) (ty := .int) (C := RX1) (T := TX1) (N := 3) hx hb hts hinX1 tyX1 tyX1_ok nmX1 hown hK.1 hP hD hS 0 rfl rfl 0 (by decide) (hts (.fieldLink RX1 9 "LoafMarks$Store" "flour" "I") (List.mem_of_getElem? (i := 1) rfl)) (fun _ h9 => h9) rfl (by decide +kernel) rfl rfl (Nat.le_of_ble_eq_true rfl) dX1_takeIn_20 (fun H locs hP hD hS => ?_)
  have hP : va_P D vwCl ([(h, cSt (upd f 0 ((f 0) + (mn p0 (900 - (f 0))))))]) H := hP
  have hD : va_D A ([(h, cSt (upd f 0 ((f 0) + (mn p0 (900 - (f 0))))))]) := hD
  refine lv_iload_n hx hb dX1_takeIn_23 rfl (lv_at hl 2 rfl) ?_
  refine lv_iload_n hx hb dX1_takeIn_24 rfl (lv_at hl 0 rfl) ?_
  refine lv_isub hx hb dX1_takeIn_25 ?_
  exact xri () hx hb hr hlocks hS (Nat.le_of_ble_eq_true rfl) (Nat.le_of_ble_eq_true rfl) dX1_takeIn_26 hP hD rfl trivial

set_option maxHeartbeats 4000000 in
set_option maxRecDepth 100000 in
/-- giveOut: as far as there is flour -/
theorem c_X1_giveOut (l : Launch) (D : va_G) (cy : Nat → ClassId) (h : Nat) (f : Iu) (p0 : Int32) : xM l D cy yX1_giveOut wsX1_giveOut ({ frames := 1, cells := 0, slots := 0, locals := 20 } : Room) [.ref h, .int p0] ([(h, cSt f)]) (fun _ : Unit => some (.int (mn p0 (f 0)))) (fun _ => True) (fun _ => [(h, cSt (sGive f p0))]) := by
  refine xM.of cX1_giveOut 3 (some .int) RX1 (by decide +kernel) rfl rfl (Nat.le_of_ble_eq_true rfl) ?_
  intro p e s m below meth c A ls hx hb hr hts hown hlocks hml hin hK hA hP hD hS hl
  have hl : lv_has ls 3 [(0, .ref h), (1, .int p0)] := hl
  have hinX1 : ∀ w ∈ wsX10, w ∈ wsX1_giveOut := fun _ h => List.mem_cons_of_mem _ (List.mem_append_right _ h)
  refine lv_iload_n hx hb dX1_giveOut_0 rfl (lv_at hl 1 rfl) ?_
  refine lv_aload_n hx hb dX1_giveOut_1 rfl (lv_at hl 0 rfl) ?_
  refine va_get (D := D) (ci := 1) (v := .int (f 0)) (C := RX1) (T := TX1) (N := 3) hx hb hts hinX1 hown hK.1 hP 0 rfl rfl 0 (by decide) (hts (.fieldLink RX1 9 "LoafMarks$Store" "flour" "I") (List.mem_of_getElem? (i := 1) rfl)) (fun _ h9 => h9) rfl dX1_giveOut_2 ?_
  refine va_mmin hx hb (hml.trans hl.1.symm) hown (hts (.methodLink RX1 21 Lib.Math.min.name) (List.mem_of_getElem? (i := 2) rfl)) (hts (.static Lib.Math.min.name) (List.mem_of_getElem? (i := 3) rfl)) (hts (.initialized "java/lang/Math") (List.mem_of_getElem? (i := 4) rfl)) (hts (.code Lib.Math.min.name Lib.Math.min.code 2 (some .int)) (List.mem_of_getElem? (i := 5) rfl)) (Nat.le_of_ble_eq_true rfl) (Nat.le_of_ble_eq_true rfl) (Nat.le_of_ble_eq_true rfl) (Nat.le_of_ble_eq_true rfl) dX1_giveOut_5 ?_
  refine W.eq (g2 := F0 m 8 ls [.int (mn p0 (f 0))]) rfl ?_
  refine lv_istore_n (lv' := [(2, .int (mn p0 (f 0))), (0, .ref h), (1, .int p0)]) hx hb dX1_giveOut_8 rfl hl (by decide) rfl (fun ls hl => ?_)
  refine lv_aload_n hx hb dX1_giveOut_9 rfl (lv_at hl 1 rfl) ?_
  refine lv_dup hx hb dX1_giveOut_10 rfl ?_
  refine va_get (D := D) (ci := 1) (v := .int (f 0)) (C := RX1) (T := TX1) (N := 3) hx hb hts hinX1 hown hK.1 hP 0 rfl rfl 0 (by decide) (hts (.fieldLink RX1 9 "LoafMarks$Store" "flour" "I") (List.mem_of_getElem? (i := 1) rfl)) (fun _ h9 => h9) rfl dX1_giveOut_11 ?_
  refine lv_iload_n hx hb dX1_giveOut_14 rfl (lv_at hl 0 rfl) ?_
  refine lv_isub hx hb dX1_giveOut_15 ?_
  refine va_put (D := D) (ci := 1) (v := .int ((f 0) - (mn p0 (f 0)))) (ty := .int) (C := RX1) (T := TX1) (N := 3) hx hb hts hinX1 tyX1 tyX1_ok nmX1 hown hK.1 hP hD hS 0 rfl rfl 0 (by decide) (hts (.fieldLink RX1 9 "LoafMarks$Store" "flour" "I") (List.mem_of_getElem? (i := 1) rfl)) (fun _ h9 => h9) rfl (by decide +kernel) rfl rfl (Nat.le_of_ble_eq_true rfl) dX1_giveOut_16 (fun H locs hP hD hS => ?_)
  have hP : va_P D vwCl ([(h, cSt (upd f 0 ((f 0) - (mn p0 (f 0)))))]) H := hP
  have hD : va_D A ([(h, cSt (upd f 0 ((f 0) - (mn p0 (f 0)))))]) := hD
  refine lv_iload_n hx hb dX1_giveOut_19 rfl (lv_at hl 0 rfl) ?_
  exact xri () hx hb hr hlocks hS (Nat.le_of_ble_eq_true rfl) (Nat.le_of_ble_eq_true rfl) dX1_giveOut_20 hP hD rfl trivial

set_option maxHeartbeats 4000000 in
set_option maxRecDepth 100000 in
/-- feedWeevils -/
theorem c_X1_feedWeevils (l : Launch) (D : va_G) (cy : Nat → ClassId) (h : Nat) (f : Iu) : xM l D cy yX1_feedWeevils wsX1_feedWeevils ({ frames := 2, cells := 0, slots := 0, locals := 50 } : Room) [.ref h] ([(h, cSt f)]) (fun _ : Unit => none) (fun _ => True) (fun _ => [(h, cSt (sFeed f))]) := by
  refine xM.of cX1_feedWeevils 1 none RX1 (by decide +kernel) rfl rfl (Nat.le_of_ble_eq_true rfl) ?_
  intro p e s m below meth c A ls hx hb hr hts hown hlocks hml hin hK hA hP hD hS hl
  have hl : lv_has ls 1 [(0, .ref h)] := hl
  have hinX1 : ∀ w ∈ wsX10, w ∈ wsX1_feedWeevils := fun _ h => List.mem_cons_of_mem _ (List.mem_append_right _ h)
  refine lv_aload_n hx hb dX1_feedWeevils_0 rfl (lv_at hl 0 rfl) ?_
  refine lv_dup hx hb dX1_feedWeevils_1 rfl ?_
  refine va_get (D := D) (ci := 1) (v := .int (f 2)) (C := RX1) (T := TX1) (N := 3) hx hb hts hinX1 hown hK.1 hP 0 rfl rfl 2 (by decide) (hts (.fieldLink RX1 18 "LoafMarks$Store" "eaten" "I") (List.mem_of_getElem? (i := 1) rfl)) (fun _ h9 => h9) rfl dX1_feedWeevils_2 ?_
  refine lv_aload_n hx hb dX1_feedWeevils_5 rfl (lv_at hl 0 rfl) ?_
  refine lv_aload_n hx hb dX1_feedWeevils_6 rfl (lv_at hl 0 rfl) ?_
  refine va_get (D := D) (ci := 1) (v := .int (f 1)) (C := RX1) (T := TX1) (N := 3) hx hb hts hinX1 hown hK.1 hP 0 rfl rfl 1 (by decide) (hts (.fieldLink RX1 15 "LoafMarks$Store" "weevils" "I") (List.mem_of_getElem? (i := 2) rfl)) (fun _ h9 => h9) rfl dX1_feedWeevils_7 ?_
  refine xcV (As := [.int (f 1)]) (rest := [.int (f 2), .ref h]) ⟨hx, hb, hml, hown, hts⟩ (c_X1_giveOut l D cy h f (f 1)) (cwV 1 hts gX1_feedWeevils_X1_giveOut rfl rfl rfl (by decide +kernel) ⟨Nat.le_of_ble_eq_true rfl, Nat.le_of_ble_eq_true rfl⟩) hK hP hD hS hA rfl rfl rfl (xE_all) rfl hl.1 rfl (Nat.le_of_ble_eq_true rfl) dX1_feedWeevils_10 ⟨Nat.le_of_ble_eq_true rfl, Nat.le_of_ble_eq_true rfl⟩ (fun _ H locs _ hP hD hS => ?_)
  have hP : va_P D vwCl ([(h, cSt (upd f 0 (f 0 - mn (f 1) (f 0))))]) H := hP
  have hD : va_D A ([(h, cSt (upd f 0 (f 0 - mn (f 1) (f 0))))]) := hD
  refine W.eq (g2 := F0 m 13 ls [.int (mn (f 1) (f 0)), .int (f 2), .ref h]) rfl ?_
  refine lv_iadd hx hb dX1_feedWeevils_13 ?_
  refine va_put (D := D) (ci := 1) (v := .int ((f 2) + (mn (f 1) (f 0)))) (ty := .int) (C := RX1) (T := TX1) (N := 3) hx hb hts hinX1 tyX1 tyX1_ok nmX1 hown hK.1 hP hD hS 0 rfl rfl 2 (by decide) (hts (.fieldLink RX1 18 "LoafMarks$Store" "eaten" "I") (List.mem_of_getElem? (i := 1) rfl)) (fun _ h9 => h9) rfl (by decide +kernel) rfl rfl (Nat.le_of_ble_eq_true rfl) dX1_feedWeevils_14 (fun H locs hP hD hS => ?_)
  have hP : va_P D vwCl ([(h, cSt (upd (upd f 0 (f 0 - mn (f 1) (f 0))) 2 ((f 2) + (mn (f 1) (f 0)))))]) H := hP
  have hD : va_D A ([(h, cSt (upd (upd f 0 (f 0 - mn (f 1) (f 0))) 2 ((f 2) + (mn (f 1) (f 0)))))]) := hD
  refine lv_aload_n hx hb dX1_feedWeevils_17 rfl (lv_at hl 0 rfl) ?_
  refine va_get (D := D) (ci := 1) (v := .int (f 0 - mn (f 1) (f 0))) (C := RX1) (T := TX1) (N := 3) hx hb hts hinX1 hown hK.1 hP 0 rfl rfl 0 (by decide) (hts (.fieldLink RX1 9 "LoafMarks$Store" "flour" "I") (List.mem_of_getElem? (i := 3) rfl)) (fun _ h9 => h9) rfl dX1_feedWeevils_18 ?_
  refine lv_if_le (tgt := 49) hx hb dX1_feedWeevils_21 (by decide) (fun c21 => ?_) (fun c21 => ?_)
  · refine lv_aload_n hx hb dX1_feedWeevils_49 rfl (lv_at hl 0 rfl) ?_
    refine lv_aload_n hx hb dX1_feedWeevils_50 rfl (lv_at hl 0 rfl) ?_
    refine va_get (D := D) (ci := 1) (v := .int (f 1)) (C := RX1) (T := TX1) (N := 3) hx hb hts hinX1 hown hK.1 hP 0 rfl rfl 1 (by decide) (hts (.fieldLink RX1 15 "LoafMarks$Store" "weevils" "I") (List.mem_of_getElem? (i := 2) rfl)) (fun _ h9 => h9) rfl dX1_feedWeevils_51 ?_
    refine lv_iconst (v := 2) hx hb dX1_feedWeevils_54 (by decide) ?_
    refine lv_idiv hx hb dX1_feedWeevils_55 (by decide) ?_
    refine va_put (D := D) (ci := 1) (v := .int ((f 1) / 2)) (ty := .int) (C := RX1) (T := TX1) (N := 3) hx hb hts hinX1 tyX1 tyX1_ok nmX1 hown hK.1 hP hD hS 0 rfl rfl 1 (by decide) (hts (.fieldLink RX1 15 "LoafMarks$Store" "weevils" "I") (List.mem_of_getElem? (i := 2) rfl)) (fun _ h9 => h9) rfl (by decide +kernel) rfl rfl (Nat.le_of_ble_eq_true rfl) dX1_feedWeevils_56 (fun H locs hP hD hS => ?_)
    have hP : va_P D vwCl ([(h, cSt (upd (upd (upd f 0 (f 0 - mn (f 1) (f 0))) 2 ((f 2) + (mn (f 1) (f 0)))) 1 ((f 1) / 2)))]) H := hP
    have hD : va_D A ([(h, cSt (upd (upd (upd f 0 (f 0 - mn (f 1) (f 0))) 2 ((f 2) + (mn (f 1) (f 0)))) 1 ((f 1) / 2)))]) := hD
    have e : sFeed f = upd (upd (upd f 0 (f 0 - mn (f 1) (f 0))) 2 ((f 2) + (mn (f 1) (f 0)))) 1 ((f 1) / 2) := by unfold sFeed; rw [if_neg (Int32.not_lt.mpr c21)]; rfl
    exact xrv () hx hb hr hlocks hS (Nat.le_of_ble_eq_true rfl) (Nat.le_of_ble_eq_true rfl) dX1_feedWeevils_59 (by rw [e]; exact hP) (by rw [e]; exact hD) rfl trivial
  · refine lv_aload_n hx hb dX1_feedWeevils_24 rfl (lv_at hl 0 rfl) ?_
    refine lv_aload_n hx hb dX1_feedWeevils_25 rfl (lv_at hl 0 rfl) ?_
    refine va_get (D := D) (ci := 1) (v := .int (f 1)) (C := RX1) (T := TX1) (N := 3) hx hb hts hinX1 hown hK.1 hP 0 rfl rfl 1 (by decide) (hts (.fieldLink RX1 15 "LoafMarks$Store" "weevils" "I") (List.mem_of_getElem? (i := 2) rfl)) (fun _ h9 => h9) rfl dX1_feedWeevils_26 ?_
    refine lv_aload_n hx hb dX1_feedWeevils_29 rfl (lv_at hl 0 rfl) ?_
    refine va_get (D := D) (ci := 1) (v := .int (f 1)) (C := RX1) (T := TX1) (N := 3) hx hb hts hinX1 hown hK.1 hP 0 rfl rfl 1 (by decide) (hts (.fieldLink RX1 15 "LoafMarks$Store" "weevils" "I") (List.mem_of_getElem? (i := 2) rfl)) (fun _ h9 => h9) rfl dX1_feedWeevils_30 ?_
    refine lv_iconst (v := 4) hx hb dX1_feedWeevils_33 (by decide) ?_
    refine lv_idiv hx hb dX1_feedWeevils_34 (by decide) ?_
    refine lv_iadd hx hb dX1_feedWeevils_35 ?_
    refine lv_iconst (v := 1) hx hb dX1_feedWeevils_36 (by decide) ?_
    refine lv_iadd hx hb dX1_feedWeevils_37 ?_
    refine lv_bipush (v := 50) hx hb dX1_feedWeevils_38 (by decide) ?_
    refine va_mmin hx hb (hml.trans hl.1.symm) hown (hts (.methodLink RX1 21 Lib.Math.min.name) (List.mem_of_getElem? (i := 4) rfl)) (hts (.static Lib.Math.min.name) (List.mem_of_getElem? (i := 5) rfl)) (hts (.initialized "java/lang/Math") (List.mem_of_getElem? (i := 6) rfl)) (hts (.code Lib.Math.min.name Lib.Math.min.code 2 (some .int)) (List.mem_of_getElem? (i := 7) rfl)) (Nat.le_of_ble_eq_true rfl) (Nat.le_of_ble_eq_true rfl) (Nat.le_of_ble_eq_true rfl) (Nat.le_of_ble_eq_true rfl) dX1_feedWeevils_40 ?_
    refine W.eq (g2 := F0 m 43 ls [.int (mn (((f 1) + ((f 1) / 4)) + 1) 50), .ref h]) rfl ?_
    refine va_put (D := D) (ci := 1) (v := .int (mn (((f 1) + ((f 1) / 4)) + 1) 50)) (ty := .int) (C := RX1) (T := TX1) (N := 3) hx hb hts hinX1 tyX1 tyX1_ok nmX1 hown hK.1 hP hD hS 0 rfl rfl 1 (by decide) (hts (.fieldLink RX1 15 "LoafMarks$Store" "weevils" "I") (List.mem_of_getElem? (i := 2) rfl)) (fun _ h9 => h9) rfl (by decide +kernel) rfl rfl (Nat.le_of_ble_eq_true rfl) dX1_feedWeevils_43 (fun H locs hP hD hS => ?_)
    have hP : va_P D vwCl ([(h, cSt (upd (upd (upd f 0 (f 0 - mn (f 1) (f 0))) 2 ((f 2) + (mn (f 1) (f 0)))) 1 (mn (((f 1) + ((f 1) / 4)) + 1) 50)))]) H := hP
    have hD : va_D A ([(h, cSt (upd (upd (upd f 0 (f 0 - mn (f 1) (f 0))) 2 ((f 2) + (mn (f 1) (f 0)))) 1 (mn (((f 1) + ((f 1) / 4)) + 1) 50)))]) := hD
    refine lv_goto (tgt := 59) hx hb dX1_feedWeevils_46 (by decide) ?_
    have e : sFeed f = upd (upd (upd f 0 (f 0 - mn (f 1) (f 0))) 2 ((f 2) + (mn (f 1) (f 0)))) 1 (mn (((f 1) + ((f 1) / 4)) + 1) 50) := by unfold sFeed; rw [if_pos (Int32.not_le.mp c21)]; rfl
    exact xrv () hx hb hr hlocks hS (Nat.le_of_ble_eq_true rfl) (Nat.le_of_ble_eq_true rfl) dX1_feedWeevils_59 (by rw [e]; exact hP) (by rw [e]; exact hD) rfl trivial

set_option maxHeartbeats 4000000 in
set_option maxRecDepth 100000 in
/-- smokeOut -/
theorem c_X1_smokeOut (l : Launch) (D : va_G) (cy : Nat → ClassId) (h : Nat) (f : Iu) : xM l D cy yX1_smokeOut wsX1_smokeOut ({ frames := 0, cells := 0, slots := 0, locals := 0 } : Room) [.ref h] ([(h, cSt f)]) (fun _ : Unit => some (.int (f 1))) (fun _ => True) (fun _ => [(h, cSt (sSmoke f))]) := by
  refine xM.of cX1_smokeOut 2 (some .int) RX1 (by decide +kernel) rfl rfl (Nat.le_of_ble_eq_true rfl) ?_
  intro p e s m below meth c A ls hx hb hr hts hown hlocks hml hin hK hA hP hD hS hl
  have hl : lv_has ls 2 [(0, .ref h)] := hl
  have hinX1 : ∀ w ∈ wsX10, w ∈ wsX1_smokeOut := fun _ h => List.mem_cons_of_mem _ (List.mem_append_right _ h)
  refine lv_aload_n hx hb dX1_smokeOut_0 rfl (lv_at hl 0 rfl) ?_
  refine va_get (D := D) (ci := 1) (v := .int (f 1)) (C := RX1) (T := TX1) (N := 3) hx hb hts hinX1 hown hK.1 hP 0 rfl rfl 1 (by decide) (hts (.fieldLink RX1 15 "LoafMarks$Store" "weevils" "I") (List.mem_of_getElem? (i := 1) rfl)) (fun _ h9 => h9) rfl dX1_smokeOut_1 ?_
  refine lv_istore_n (lv' := [(1, .int (f 1)), (0, .ref h)]) hx hb dX1_smokeOut_4 rfl hl (by decide) rfl (fun ls hl => ?_)
  refine lv_aload_n hx hb dX1_smokeOut_5 rfl (lv_at hl 1 rfl) ?_
  refine lv_iconst (v := 0) hx hb dX1_smokeOut_6 (by decide) ?_
  refine va_put (D := D) (ci := 1) (v := .int 0) (ty := .int) (C := RX1) (T := TX1) (N := 3) hx hb hts hinX1 tyX1 tyX1_ok nmX1 hown hK.1 hP hD hS 0 rfl rfl 1 (by decide) (hts (.fieldLink RX1 15 "LoafMarks$Store" "weevils" "I") (List.mem_of_getElem? (i := 1) rfl)) (fun _ h9 => h9) rfl (by decide +kernel) rfl rfl (Nat.le_of_ble_eq_true rfl) dX1_smokeOut_7 (fun H locs hP hD hS => ?_)
  have hP : va_P D vwCl ([(h, cSt (upd f 1 0))]) H := hP
  have hD : va_D A ([(h, cSt (upd f 1 0))]) := hD
  refine lv_aload_n hx hb dX1_smokeOut_10 rfl (lv_at hl 1 rfl) ?_
  refine lv_dup hx hb dX1_smokeOut_11 rfl ?_
  refine va_get (D := D) (ci := 1) (v := .int (f 0)) (C := RX1) (T := TX1) (N := 3) hx hb hts hinX1 hown hK.1 hP 0 rfl rfl 0 (by decide) (hts (.fieldLink RX1 9 "LoafMarks$Store" "flour" "I") (List.mem_of_getElem? (i := 2) rfl)) (fun _ h9 => h9) rfl dX1_smokeOut_12 ?_
  refine lv_aload_n hx hb dX1_smokeOut_15 rfl (lv_at hl 1 rfl) ?_
  refine va_get (D := D) (ci := 1) (v := .int (f 0)) (C := RX1) (T := TX1) (N := 3) hx hb hts hinX1 hown hK.1 hP 0 rfl rfl 0 (by decide) (hts (.fieldLink RX1 9 "LoafMarks$Store" "flour" "I") (List.mem_of_getElem? (i := 2) rfl)) (fun _ h9 => h9) rfl dX1_smokeOut_16 ?_
  refine lv_bipush (v := 10) hx hb dX1_smokeOut_19 (by decide) ?_
  refine lv_idiv hx hb dX1_smokeOut_21 (by decide) ?_
  refine lv_isub hx hb dX1_smokeOut_22 ?_
  refine va_put (D := D) (ci := 1) (v := .int ((f 0) - ((f 0) / 10))) (ty := .int) (C := RX1) (T := TX1) (N := 3) hx hb hts hinX1 tyX1 tyX1_ok nmX1 hown hK.1 hP hD hS 0 rfl rfl 0 (by decide) (hts (.fieldLink RX1 9 "LoafMarks$Store" "flour" "I") (List.mem_of_getElem? (i := 2) rfl)) (fun _ h9 => h9) rfl (by decide +kernel) rfl rfl (Nat.le_of_ble_eq_true rfl) dX1_smokeOut_23 (fun H locs hP hD hS => ?_)
  have hP : va_P D vwCl ([(h, cSt (upd (upd f 1 0) 0 ((f 0) - ((f 0) / 10))))]) H := hP
  have hD : va_D A ([(h, cSt (upd (upd f 1 0) 0 ((f 0) - ((f 0) / 10))))]) := hD
  refine lv_iload_n hx hb dX1_smokeOut_26 rfl (lv_at hl 0 rfl) ?_
  exact xri () hx hb hr hlocks hS (Nat.le_of_ble_eq_true rfl) (Nat.le_of_ble_eq_true rfl) dX1_smokeOut_27 hP hD rfl trivial

set_option maxHeartbeats 4000000 in
set_option maxRecDepth 100000 in
/-- bakesLight -/
theorem c_X0_bakesLight (l : Launch) (D : va_G) (cy : Nat → ClassId) (h : Nat) (f : Iu) : xM l D cy yX0_bakesLight wsX0_bakesLight ({ frames := 0, cells := 0, slots := 0, locals := 0 } : Room) [.ref h] ([(h, cBk f)]) (fun _ : Unit => some (.int (bLight f))) (fun _ => True) (fun _ => [(h, cBk (f))]) := by
  refine xM.of cX0_bakesLight 1 (some .boolean) RX0 (by decide +kernel) rfl rfl (Nat.le_of_ble_eq_true rfl) ?_
  intro p e s m below meth c A ls hx hb hr hts hown hlocks hml hin hK hA hP hD hS hl
  have hl : lv_has ls 1 [(0, .ref h)] := hl
  have hinX0 : ∀ w ∈ wsX00, w ∈ wsX0_bakesLight := fun _ h => List.mem_cons_of_mem _ (List.mem_append_right _ h)
  refine lv_aload_n hx hb dX0_bakesLight_0 rfl (lv_at hl 0 rfl) ?_
  refine va_get (D := D) (ci := 0) (v := .int (f 4)) (C := RX0) (T := TX0) (N := 8) hx hb hts hinX0 hown hK.1 hP 0 rfl rfl 4 (by decide) (hts (.fieldLink RX0 18 "LoafMarks$Baker" "weight" "I") (List.mem_of_getElem? (i := 1) rfl)) (fun _ h9 => h9) rfl dX0_bakesLight_1 ?_
  refine lv_bipush (v := 10) hx hb dX0_bakesLight_4 (by decide) ?_
  refine lv_icmp_ge (tgt := 13) hx hb dX0_bakesLight_6 (by decide) (fun c6 => ?_) (fun c6 => ?_)
  · refine lv_iconst (v := 0) hx hb dX0_bakesLight_13 (by decide) ?_
    exact xrz () hx hb hr hlocks hS (Nat.le_of_ble_eq_true rfl) (Nat.le_of_ble_eq_true rfl) dX0_bakesLight_14 (by decide) hP hD (by show some (Value.int (bLight f)) = _; unfold bLight; rw [if_neg (Int32.not_lt.mpr c6)]) trivial
  · refine lv_iconst (v := 1) hx hb dX0_bakesLight_9 (by decide) ?_
    refine lv_goto (tgt := 14) hx hb dX0_bakesLight_10 (by decide) ?_
    exact xrz () hx hb hr hlocks hS (Nat.le_of_ble_eq_true rfl) (Nat.le_of_ble_eq_true rfl) dX0_bakesLight_14 (by decide) hP hD (by show some (Value.int (bLight f)) = _; unfold bLight; rw [if_pos (Int32.not_le.mp c6)]) trivial

set_option maxHeartbeats 4000000 in
set_option maxRecDepth 100000 in
/-- bake -/
theorem c_X0_bake (l : Launch) (D : va_G) (cy : Nat → ClassId) (h : Nat) (f : Iu) : xM l D cy yX0_bake wsX0_bake ({ frames := 1, cells := 0, slots := 0, locals := 20 } : Room) [.ref h] ([(h, cBk f)]) (fun _ : Unit => none) (fun _ => True) (fun _ => [(h, cBk (bBake f))]) := by
  refine xM.of cX0_bake 2 none RX0 (by decide +kernel) rfl rfl (Nat.le_of_ble_eq_true rfl) ?_
  intro p e s m below meth c A ls hx hb hr hts hown hlocks hml hin hK hA hP hD hS hl
  have hl : lv_has ls 2 [(0, .ref h)] := hl
  have hinX0 : ∀ w ∈ wsX00, w ∈ wsX0_bake := fun _ h => List.mem_cons_of_mem _ (List.mem_append_right _ h)
  refine lv_aload_n hx hb dX0_bake_0 rfl (lv_at hl 0 rfl) ?_
  refine va_get (D := D) (ci := 0) (v := .int (f 7)) (C := RX0) (T := TX0) (N := 8) hx hb hts hinX0 hown hK.1 hP 0 rfl rfl 7 (by decide) (hts (.fieldLink RX0 33 "LoafMarks$Baker" "barred" "Z") (List.mem_of_getElem? (i := 1) rfl)) (fun _ h9 => h9) rfl dX0_bake_1 ?_
  refine lv_if_ne (tgt := 14) hx hb dX0_bake_4 (by decide) (fun c4 => ?_) (fun c4 => ?_)
  · have e : bBake f = f := by unfold bBake; rw [if_neg (fun h => c4 h.1)]
    exact xrv () hx hb hr hlocks hS (Nat.le_of_ble_eq_true rfl) (Nat.le_of_ble_eq_true rfl) dX0_bake_14 (by rw [e]; exact hP) (by rw [e]; exact hD) rfl trivial
  · refine lv_aload_n hx hb dX0_bake_7 rfl (lv_at hl 0 rfl) ?_
    refine va_get (D := D) (ci := 0) (v := .int (f 4)) (C := RX0) (T := TX0) (N := 8) hx hb hts hinX0 hown hK.1 hP 0 rfl rfl 4 (by decide) (hts (.fieldLink RX0 18 "LoafMarks$Baker" "weight" "I") (List.mem_of_getElem? (i := 2) rfl)) (fun _ h9 => h9) rfl dX0_bake_8 ?_
    refine lv_if_gt (tgt := 15) hx hb dX0_bake_11 (by decide) (fun c11 => ?_) (fun c11 => ?_)
    · refine lv_aload_n hx hb dX0_bake_15 rfl (lv_at hl 0 rfl) ?_
      refine va_get (D := D) (ci := 0) (v := .int (f 3)) (C := RX0) (T := TX0) (N := 8) hx hb hts hinX0 hown hK.1 hP 0 rfl rfl 3 (by decide) (hts (.fieldLink RX0 24 "LoafMarks$Baker" "atHand" "I") (List.mem_of_getElem? (i := 3) rfl)) (fun _ h9 => h9) rfl dX0_bake_16 ?_
      refine lv_aload_n hx hb dX0_bake_19 rfl (lv_at hl 0 rfl) ?_
      refine va_get (D := D) (ci := 0) (v := .int (f 4)) (C := RX0) (T := TX0) (N := 8) hx hb hts hinX0 hown hK.1 hP 0 rfl rfl 4 (by decide) (hts (.fieldLink RX0 18 "LoafMarks$Baker" "weight" "I") (List.mem_of_getElem? (i := 2) rfl)) (fun _ h9 => h9) rfl dX0_bake_20 ?_
      refine lv_idiv hx hb dX0_bake_23 (fun h => by rw [h] at c11; exact absurd c11 (by decide)) ?_
      refine lv_iconst (v := 4) hx hb dX0_bake_24 (by decide) ?_
      refine va_mmin hx hb (hml.trans hl.1.symm) hown (hts (.methodLink RX0 37 Lib.Math.min.name) (List.mem_of_getElem? (i := 4) rfl)) (hts (.static Lib.Math.min.name) (List.mem_of_getElem? (i := 5) rfl)) (hts (.initialized "java/lang/Math") (List.mem_of_getElem? (i := 6) rfl)) (hts (.code Lib.Math.min.name Lib.Math.min.code 2 (some .int)) (List.mem_of_getElem? (i := 7) rfl)) (Nat.le_of_ble_eq_true rfl) (Nat.le_of_ble_eq_true rfl) (Nat.le_of_ble_eq_true rfl) (Nat.le_of_ble_eq_true rfl) dX0_bake_25 ?_
      refine W.eq (g2 := F0 m 28 ls [.int (mn ((f 3) / (f 4)) 4)]) rfl ?_
      refine lv_istore_n (lv' := [(1, .int (mn ((f 3) / (f 4)) 4)), (0, .ref h)]) hx hb dX0_bake_28 rfl hl (by decide) rfl (fun ls hl => ?_)
      refine lv_aload_n hx hb dX0_bake_29 rfl (lv_at hl 1 rfl) ?_
      refine lv_dup hx hb dX0_bake_30 rfl ?_
      refine va_get (D := D) (ci := 0) (v := .int (f 3)) (C := RX0) (T := TX0) (N := 8) hx hb hts hinX0 hown hK.1 hP 0 rfl rfl 3 (by decide) (hts (.fieldLink RX0 24 "LoafMarks$Baker" "atHand" "I") (List.mem_of_getElem? (i := 3) rfl)) (fun _ h9 => h9) rfl dX0_bake_31 ?_
      refine lv_iload_n hx hb dX0_bake_34 rfl (lv_at hl 0 rfl) ?_
      refine lv_aload_n hx hb dX0_bake_35 rfl (lv_at hl 1 rfl) ?_
      refine va_get (D := D) (ci := 0) (v := .int (f 4)) (C := RX0) (T := TX0) (N := 8) hx hb hts hinX0 hown hK.1 hP 0 rfl rfl 4 (by decide) (hts (.fieldLink RX0 18 "LoafMarks$Baker" "weight" "I") (List.mem_of_getElem? (i := 2) rfl)) (fun _ h9 => h9) rfl dX0_bake_36 ?_
      refine lv_imul hx hb dX0_bake_39 ?_
      refine lv_isub hx hb dX0_bake_40 ?_
      refine va_put (D := D) (ci := 0) (v := .int ((f 3) - ((mn ((f 3) / (f 4)) 4) * (f 4)))) (ty := .int) (C := RX0) (T := TX0) (N := 8) hx hb hts hinX0 tyX0 tyX0_ok nmX0 hown hK.1 hP hD hS 0 rfl rfl 3 (by decide) (hts (.fieldLink RX0 24 "LoafMarks$Baker" "atHand" "I") (List.mem_of_getElem? (i := 3) rfl)) (fun _ h9 => h9) rfl (by decide +kernel) rfl rfl (Nat.le_of_ble_eq_true rfl) dX0_bake_41 (fun H locs hP hD hS => ?_)
      have hP : va_P D vwCl ([(h, cBk (upd f 3 ((f 3) - ((mn ((f 3) / (f 4)) 4) * (f 4)))))]) H := hP
      have hD : va_D A ([(h, cBk (upd f 3 ((f 3) - ((mn ((f 3) / (f 4)) 4) * (f 4)))))]) := hD
      refine lv_aload_n hx hb dX0_bake_44 rfl (lv_at hl 1 rfl) ?_
      refine lv_dup hx hb dX0_bake_45 rfl ?_
      refine va_get (D := D) (ci := 0) (v := .int (f 5)) (C := RX0) (T := TX0) (N := 8) hx hb hts hinX0 hown hK.1 hP 0 rfl rfl 5 (by decide) (hts (.fieldLink RX0 27 "LoafMarks$Baker" "shelf" "I") (List.mem_of_getElem? (i := 8) rfl)) (fun _ h9 => h9) rfl dX0_bake_46 ?_
      refine lv_iload_n hx hb dX0_bake_49 rfl (lv_at hl 0 rfl) ?_
      refine lv_iadd hx hb dX0_bake_50 ?_
      refine va_put (D := D) (ci := 0) (v := .int ((f 5) + (mn ((f 3) / (f 4)) 4))) (ty := .int) (C := RX0) (T := TX0) (N := 8) hx hb hts hinX0 tyX0 tyX0_ok nmX0 hown hK.1 hP hD hS 0 rfl rfl 5 (by decide) (hts (.fieldLink RX0 27 "LoafMarks$Baker" "shelf" "I") (List.mem_of_getElem? (i := 8) rfl)) (fun _ h9 => h9) rfl (by decide +kernel) rfl rfl (Nat.le_of_ble_eq_true rfl) dX0_bake_51 (fun H locs hP hD hS => ?_)
      have hP : va_P D vwCl ([(h, cBk (upd (upd f 3 ((f 3) - ((mn ((f 3) / (f 4)) 4) * (f 4)))) 5 ((f 5) + (mn ((f 3) / (f 4)) 4))))]) H := hP
      have hD : va_D A ([(h, cBk (upd (upd f 3 ((f 3) - ((mn ((f 3) / (f 4)) 4) * (f 4)))) 5 ((f 5) + (mn ((f 3) / (f 4)) 4))))]) := hD
      have e : bBake f = upd (upd f 3 ((f 3) - ((mn ((f 3) / (f 4)) 4) * (f 4)))) 5 ((f 5) + (mn ((f 3) / (f 4)) 4)) := by unfold bBake; rw [if_pos ⟨c4, c11⟩]; rfl
      exact xrv () hx hb hr hlocks hS (Nat.le_of_ble_eq_true rfl) (Nat.le_of_ble_eq_true rfl) dX0_bake_54 (by rw [e]; exact hP) (by rw [e]; exact hD) rfl trivial
    · have e : bBake f = f := by unfold bBake; rw [if_neg (fun h => c11 h.2)]
      exact xrv () hx hb hr hlocks hS (Nat.le_of_ble_eq_true rfl) (Nat.le_of_ble_eq_true rfl) dX0_bake_14 (by rw [e]; exact hP) (by rw [e]; exact hD) rfl trivial

set_option maxHeartbeats 4000000 in
set_option maxRecDepth 100000 in
/-- sell -/
theorem c_X0_sell (l : Launch) (D : va_G) (cy : Nat → ClassId) (h : Nat) (f : Iu) (p0 : Int32) : xM l D cy yX0_sell wsX0_sell ({ frames := 1, cells := 0, slots := 0, locals := 20 } : Room) [.ref h, .int p0] ([(h, cBk f)]) (fun _ : Unit => some (.int (mn p0 (f 5)))) (fun _ => True) (fun _ => [(h, cBk (bSell f p0))]) := by
  refine xM.of cX0_sell 3 (some .int) RX0 (by decide +kernel) rfl rfl (Nat.le_of_ble_eq_true rfl) ?_
  intro p e s m below meth c A ls hx hb hr hts hown hlocks hml hin hK hA hP hD hS hl
  have hl : lv_has ls 3 [(0, .ref h), (1, .int p0)] := hl
  have hinX0 : ∀ w ∈ wsX00, w ∈ wsX0_sell := fun _ h => List.mem_cons_of_mem _ (List.mem_append_right _ h)
  refine lv_iload_n hx hb dX0_sell_0 rfl (lv_at hl 1 rfl) ?_
  refine lv_aload_n hx hb dX0_sell_1 rfl (lv_at hl 0 rfl) ?_
  refine va_get (D := D) (ci := 0) (v := .int (f 5)) (C := RX0) (T := TX0) (N := 8) hx hb hts hinX0 hown hK.1 hP 0 rfl rfl 5 (by decide) (hts (.fieldLink RX0 27 "LoafMarks$Baker" "shelf" "I") (List.mem_of_getElem? (i := 1) rfl)) (fun _ h9 => h9) rfl dX0_sell_2 ?_
  refine va_mmin hx hb (hml.trans hl.1.symm) hown (hts (.methodLink RX0 37 Lib.Math.min.name) (List.mem_of_getElem? (i := 2) rfl)) (hts (.static Lib.Math.min.name) (List.mem_of_getElem? (i := 3) rfl)) (hts (.initialized "java/lang/Math") (List.mem_of_getElem? (i := 4) rfl)) (hts (.code Lib.Math.min.name Lib.Math.min.code 2 (some .int)) (List.mem_of_getElem? (i := 5) rfl)) (Nat.le_of_ble_eq_true rfl) (Nat.le_of_ble_eq_true rfl) (Nat.le_of_ble_eq_true rfl) (Nat.le_of_ble_eq_true rfl) dX0_sell_5 ?_
  refine W.eq (g2 := F0 m 8 ls [.int (mn p0 (f 5))]) rfl ?_
  refine lv_istore_n (lv' := [(2, .int (mn p0 (f 5))), (0, .ref h), (1, .int p0)]) hx hb dX0_sell_8 rfl hl (by decide) rfl (fun ls hl => ?_)
  refine lv_aload_n hx hb dX0_sell_9 rfl (lv_at hl 1 rfl) ?_
  refine lv_dup hx hb dX0_sell_10 rfl ?_
  refine va_get (D := D) (ci := 0) (v := .int (f 5)) (C := RX0) (T := TX0) (N := 8) hx hb hts hinX0 hown hK.1 hP 0 rfl rfl 5 (by decide) (hts (.fieldLink RX0 27 "LoafMarks$Baker" "shelf" "I") (List.mem_of_getElem? (i := 1) rfl)) (fun _ h9 => h9) rfl dX0_sell_11 ?_
  refine lv_iload_n hx hb dX0_sell_14 rfl (lv_at hl 0 rfl) ?_
  refine lv_isub hx hb dX0_sell_15 ?_
  refine va_put (D := D) (ci := 0) (v := .int ((f 5) - (mn p0 (f 5)))) (ty := .int) (C := RX0) (T := TX0) (N := 8) hx hb hts hinX0 tyX0 tyX0_ok nmX0 hown hK.1 hP hD hS 0 rfl rfl 5 (by decide) (hts (.fieldLink RX0 27 "LoafMarks$Baker" "shelf" "I") (List.mem_of_getElem? (i := 1) rfl)) (fun _ h9 => h9) rfl (by decide +kernel) rfl rfl (Nat.le_of_ble_eq_true rfl) dX0_sell_16 (fun H locs hP hD hS => ?_)
  have hP : va_P D vwCl ([(h, cBk (upd f 5 ((f 5) - (mn p0 (f 5)))))]) H := hP
  have hD : va_D A ([(h, cBk (upd f 5 ((f 5) - (mn p0 (f 5)))))]) := hD
  refine lv_aload_n hx hb dX0_sell_19 rfl (lv_at hl 1 rfl) ?_
  refine lv_dup hx hb dX0_sell_20 rfl ?_
  refine va_get (D := D) (ci := 0) (v := .int (f 6)) (C := RX0) (T := TX0) (N := 8) hx hb hts hinX0 hown hK.1 hP 0 rfl rfl 6 (by decide) (hts (.fieldLink RX0 30 "LoafMarks$Baker" "sold" "I") (List.mem_of_getElem? (i := 6) rfl)) (fun _ h9 => h9) rfl dX0_sell_21 ?_
  refine lv_iload_n hx hb dX0_sell_24 rfl (lv_at hl 0 rfl) ?_
  refine lv_iadd hx hb dX0_sell_25 ?_
  refine va_put (D := D) (ci := 0) (v := .int ((f 6) + (mn p0 (f 5)))) (ty := .int) (C := RX0) (T := TX0) (N := 8) hx hb hts hinX0 tyX0 tyX0_ok nmX0 hown hK.1 hP hD hS 0 rfl rfl 6 (by decide) (hts (.fieldLink RX0 30 "LoafMarks$Baker" "sold" "I") (List.mem_of_getElem? (i := 6) rfl)) (fun _ h9 => h9) rfl (by decide +kernel) rfl rfl (Nat.le_of_ble_eq_true rfl) dX0_sell_26 (fun H locs hP hD hS => ?_)
  have hP : va_P D vwCl ([(h, cBk (upd (upd f 5 ((f 5) - (mn p0 (f 5)))) 6 ((f 6) + (mn p0 (f 5)))))]) H := hP
  have hD : va_D A ([(h, cBk (upd (upd f 5 ((f 5) - (mn p0 (f 5)))) 6 ((f 6) + (mn p0 (f 5)))))]) := hD
  refine lv_iload_n hx hb dX0_sell_29 rfl (lv_at hl 0 rfl) ?_
  exact xri () hx hb hr hlocks hS (Nat.le_of_ble_eq_true rfl) (Nat.le_of_ble_eq_true rfl) dX0_sell_30 hP hD rfl trivial

set_option maxHeartbeats 4000000 in
set_option maxRecDepth 100000 in
/-- inspect -/
theorem c_X0_inspect (l : Launch) (D : va_G) (cy : Nat → ClassId) (h : Nat) (f : Iu) : xM l D cy yX0_inspect wsX0_inspect ({ frames := 1, cells := 0, slots := 0, locals := 30 } : Room) [.ref h] ([(h, cBk f)]) (fun _ : Unit => some (.int (f 4))) (fun _ => True) (fun _ => [(h, cBk (bInspect f))]) := by
  refine xM.of cX0_inspect 1 (some .int) RX0 (by decide +kernel) rfl rfl (Nat.le_of_ble_eq_true rfl) ?_
  intro p e s m below meth c A ls hx hb hr hts hown hlocks hml hin hK hA hP hD hS hl
  have hl : lv_has ls 1 [(0, .ref h)] := hl
  have hinX0 : ∀ w ∈ wsX00, w ∈ wsX0_inspect := fun _ h => List.mem_cons_of_mem _ (List.mem_append_right _ h)
  refine lv_aload_n hx hb dX0_inspect_0 rfl (lv_at hl 0 rfl) ?_
  refine lv_dup hx hb dX0_inspect_1 rfl ?_
  refine va_get (D := D) (ci := 0) (v := .int (f 5)) (C := RX0) (T := TX0) (N := 8) hx hb hts hinX0 hown hK.1 hP 0 rfl rfl 5 (by decide) (hts (.fieldLink RX0 27 "LoafMarks$Baker" "shelf" "I") (List.mem_of_getElem? (i := 1) rfl)) (fun _ h9 => h9) rfl dX0_inspect_2 ?_
  refine lv_iconst (v := 1) hx hb dX0_inspect_5 (by decide) ?_
  refine lv_isub hx hb dX0_inspect_6 ?_
  refine va_put (D := D) (ci := 0) (v := .int ((f 5) - 1)) (ty := .int) (C := RX0) (T := TX0) (N := 8) hx hb hts hinX0 tyX0 tyX0_ok nmX0 hown hK.1 hP hD hS 0 rfl rfl 5 (by decide) (hts (.fieldLink RX0 27 "LoafMarks$Baker" "shelf" "I") (List.mem_of_getElem? (i := 1) rfl)) (fun _ h9 => h9) rfl (by decide +kernel) rfl rfl (Nat.le_of_ble_eq_true rfl) dX0_inspect_7 (fun H locs hP hD hS => ?_)
  have hP : va_P D vwCl ([(h, cBk (upd f 5 ((f 5) - 1)))]) H := hP
  have hD : va_D A ([(h, cBk (upd f 5 ((f 5) - 1)))]) := hD
  refine lv_aload_n hx hb dX0_inspect_10 rfl (lv_at hl 0 rfl) ?_
  refine xcV (As := []) (rest := []) ⟨hx, hb, hml, hown, hts⟩ (c_X0_bakesLight l D cy h (upd f 5 ((f 5) - 1))) (cwV 0 hts gX0_inspect_X0_bakesLight rfl rfl rfl (by decide +kernel) ⟨Nat.le_of_ble_eq_true rfl, Nat.le_of_ble_eq_true rfl⟩) hK hP hD hS hA rfl rfl rfl (xE_all) rfl hl.1 rfl (Nat.le_of_ble_eq_true rfl) dX0_inspect_11 ⟨Nat.le_of_ble_eq_true rfl, Nat.le_of_ble_eq_true rfl⟩ (fun _ H locs _ hP hD hS => ?_)
  have hP : va_P D vwCl ([(h, cBk (upd f 5 ((f 5) - 1)))]) H := hP
  have hD : va_D A ([(h, cBk (upd f 5 ((f 5) - 1)))]) := hD
  refine W.eq (g2 := F0 m 14 ls [.int (bLight f)]) rfl ?_
  refine lv_if_eq (tgt := 22) hx hb dX0_inspect_14 (by decide) (fun c14 => ?_) (fun c14 => ?_)
  · have c14 : ¬ f 4 < 10 := fun h => by unfold bLight at c14; rw [if_pos h] at c14; exact absurd c14 (by decide)
    refine lv_aload_n hx hb dX0_inspect_22 rfl (lv_at hl 0 rfl) ?_
    refine va_get (D := D) (ci := 0) (v := .int (f 4)) (C := RX0) (T := TX0) (N := 8) hx hb hts hinX0 hown hK.1 hP 0 rfl rfl 4 (by decide) (hts (.fieldLink RX0 18 "LoafMarks$Baker" "weight" "I") (List.mem_of_getElem? (i := 3) rfl)) (fun _ h9 => h9) rfl dX0_inspect_23 ?_
    have e : bInspect f = upd f 5 ((f 5) - 1) := by unfold bInspect; rw [if_neg c14]
    exact xri () hx hb hr hlocks hS (Nat.le_of_ble_eq_true rfl) (Nat.le_of_ble_eq_true rfl) dX0_inspect_26 (by rw [e]; exact hP) (by rw [e]; exact hD) rfl trivial
  · have c14 : f 4 < 10 := Decidable.byContradiction fun h => c14 (by unfold bLight; rw [if_neg h])
    refine lv_aload_n hx hb dX0_inspect_17 rfl (lv_at hl 0 rfl) ?_
    refine lv_iconst (v := 1) hx hb dX0_inspect_18 (by decide) ?_
    refine va_put (D := D) (ci := 0) (v := .int 1) (ty := .boolean) (C := RX0) (T := TX0) (N := 8) hx hb hts hinX0 tyX0 tyX0_ok nmX0 hown hK.1 hP hD hS 0 rfl rfl 7 (by decide) (hts (.fieldLink RX0 33 "LoafMarks$Baker" "barred" "Z") (List.mem_of_getElem? (i := 2) rfl)) (fun _ h9 => h9) rfl (by decide +kernel) rfl rfl (Nat.le_of_ble_eq_true rfl) dX0_inspect_19 (fun H locs hP hD hS => ?_)
    have hP : va_P D vwCl ([(h, cBk (upd (upd f 5 ((f 5) - 1)) 7 1))]) H := hP
    have hD : va_D A ([(h, cBk (upd (upd f 5 ((f 5) - 1)) 7 1))]) := hD
    refine lv_aload_n hx hb dX0_inspect_22 rfl (lv_at hl 0 rfl) ?_
    refine va_get (D := D) (ci := 0) (v := .int (f 4)) (C := RX0) (T := TX0) (N := 8) hx hb hts hinX0 hown hK.1 hP 0 rfl rfl 4 (by decide) (hts (.fieldLink RX0 18 "LoafMarks$Baker" "weight" "I") (List.mem_of_getElem? (i := 3) rfl)) (fun _ h9 => h9) rfl dX0_inspect_23 ?_
    have e : bInspect f = upd (upd f 5 ((f 5) - 1)) 7 1 := by unfold bInspect; rw [if_pos c14]
    exact xri () hx hb hr hlocks hS (Nat.le_of_ble_eq_true rfl) (Nat.le_of_ble_eq_true rfl) dX0_inspect_26 (by rw [e]; exact hP) (by rw [e]; exact hD) rfl trivial

set_option maxHeartbeats 4000000 in
set_option maxRecDepth 100000 in
/-- forgive -/
theorem c_X0_forgive (l : Launch) (D : va_G) (cy : Nat → ClassId) (h : Nat) (f : Iu) (hg : f 7 = 0 ∨ f 7 = 1) : xM l D cy yX0_forgive wsX0_forgive ({ frames := 1, cells := 0, slots := 0, locals := 20 } : Room) [.ref h] ([(h, cBk f)]) (fun _ : Unit => some (.int (f 7))) (fun _ => True) (fun _ => [(h, cBk (bForgive f))]) := by
  refine xM.of cX0_forgive 2 (some .boolean) RX0 (by decide +kernel) rfl rfl (Nat.le_of_ble_eq_true rfl) ?_
  intro p e s m below meth c A ls hx hb hr hts hown hlocks hml hin hK hA hP hD hS hl
  have hl : lv_has ls 2 [(0, .ref h)] := hl
  have hinX0 : ∀ w ∈ wsX00, w ∈ wsX0_forgive := fun _ h => List.mem_cons_of_mem _ (List.mem_append_right _ h)
  refine lv_aload_n hx hb dX0_forgive_0 rfl (lv_at hl 0 rfl) ?_
  refine va_get (D := D) (ci := 0) (v := .int (f 7)) (C := RX0) (T := TX0) (N := 8) hx hb hts hinX0 hown hK.1 hP 0 rfl rfl 7 (by decide) (hts (.fieldLink RX0 33 "LoafMarks$Baker" "barred" "Z") (List.mem_of_getElem? (i := 1) rfl)) (fun _ h9 => h9) rfl dX0_forgive_1 ?_
  refine lv_istore_n (lv' := [(1, .int (f 7)), (0, .ref h)]) hx hb dX0_forgive_4 rfl hl (by decide) rfl (fun ls hl => ?_)
  refine lv_aload_n hx hb dX0_forgive_5 rfl (lv_at hl 1 rfl) ?_
  refine lv_iconst (v := 0) hx hb dX0_forgive_6 (by decide) ?_
  refine va_put (D := D) (ci := 0) (v := .int 0) (ty := .boolean) (C := RX0) (T := TX0) (N := 8) hx hb hts hinX0 tyX0 tyX0_ok nmX0 hown hK.1 hP hD hS 0 rfl rfl 7 (by decide) (hts (.fieldLink RX0 33 "LoafMarks$Baker" "barred" "Z") (List.mem_of_getElem? (i := 1) rfl)) (fun _ h9 => h9) rfl (by decide +kernel) rfl rfl (Nat.le_of_ble_eq_true rfl) dX0_forgive_7 (fun H locs hP hD hS => ?_)
  have hP : va_P D vwCl ([(h, cBk (upd f 7 0))]) H := hP
  have hD : va_D A ([(h, cBk (upd f 7 0))]) := hD
  refine lv_aload_n hx hb dX0_forgive_10 rfl (lv_at hl 1 rfl) ?_
  refine lv_aload_n hx hb dX0_forgive_11 rfl (lv_at hl 1 rfl) ?_
  refine va_get (D := D) (ci := 0) (v := .int (f 4)) (C := RX0) (T := TX0) (N := 8) hx hb hts hinX0 hown hK.1 hP 0 rfl rfl 4 (by decide) (hts (.fieldLink RX0 18 "LoafMarks$Baker" "weight" "I") (List.mem_of_getElem? (i := 2) rfl)) (fun _ h9 => h9) rfl dX0_forgive_12 ?_
  refine lv_bipush (v := 10) hx hb dX0_forgive_15 (by decide) ?_
  refine va_mmax hx hb (hml.trans hl.1.symm) hown (hts (.methodLink RX0 47 Lib.Math.max.name) (List.mem_of_getElem? (i := 3) rfl)) (hts (.static Lib.Math.max.name) (List.mem_of_getElem? (i := 4) rfl)) (hts (.initialized "java/lang/Math") (List.mem_of_getElem? (i := 5) rfl)) (hts (.code Lib.Math.max.name Lib.Math.max.code 2 (some .int)) (List.mem_of_getElem? (i := 6) rfl)) (Nat.le_of_ble_eq_true rfl) (Nat.le_of_ble_eq_true rfl) (Nat.le_of_ble_eq_true rfl) (Nat.le_of_ble_eq_true rfl) dX0_forgive_17 ?_
  refine W.eq (g2 := F0 m 20 ls [.int (mx (f 4) 10), .ref h]) rfl ?_
  refine va_put (D := D) (ci := 0) (v := .int (mx (f 4) 10)) (ty := .int) (C := RX0) (T := TX0) (N := 8) hx hb hts hinX0 tyX0 tyX0_ok nmX0 hown hK.1 hP hD hS 0 rfl rfl 4 (by decide) (hts (.fieldLink RX0 18 "LoafMarks$Baker" "weight" "I") (List.mem_of_getElem? (i := 2) rfl)) (fun _ h9 => h9) rfl (by decide +kernel) rfl rfl (Nat.le_of_ble_eq_true rfl) dX0_forgive_20 (fun H locs hP hD hS => ?_)
  have hP : va_P D vwCl ([(h, cBk (upd (upd f 7 0) 4 (mx (f 4) 10)))]) H := hP
  have hD : va_D A ([(h, cBk (upd (upd f 7 0) 4 (mx (f 4) 10)))]) := hD
  refine lv_iload_n hx hb dX0_forgive_23 rfl (lv_at hl 0 rfl) ?_
  exact xrz () hx hb hr hlocks hS (Nat.le_of_ble_eq_true rfl) (Nat.le_of_ble_eq_true rfl) dX0_forgive_24 (n_bool hg).1 hP hD rfl trivial

set_option maxHeartbeats 4000000 in
set_option maxRecDepth 100000 in
/-- fact -/
theorem c_X0_fact (l : Launch) (D : va_G) (cy : Nat → ClassId) (h : Nat) (f : Iu) (k : Nat) (hk : k < 8) : xM l D cy yX0_fact wsX0_fact ({ frames := 0, cells := 0, slots := 0, locals := 0 } : Room) [.ref h, .int (nI k)] ([(h, cBk f)]) (fun _ : Unit => some (.int (bFact f k))) (fun _ => True) (fun _ => [(h, cBk f)]) := by
  refine xM.of cX0_fact 2 (some .int) RX0 (by decide +kernel) rfl rfl (Nat.le_of_ble_eq_true rfl) ?_
  intro p e s m below meth c A ls hx hb hr hts hown hlocks hml hin hK hA hP hD hS hl
  have hl : lv_has ls 2 [(0, .ref h), (1, .int (nI k))] := hl
  have hinX0 : ∀ w ∈ wsX00, w ∈ wsX0_fact := fun _ h => List.mem_cons_of_mem _ (List.mem_append_right _ h)
  refine lv_iload_n hx hb dX0_fact_0 rfl (lv_at hl 1 rfl) ?_
  have hcase : k = 0 ∨ k = 1 ∨ k = 2 ∨ k = 3 ∨ k = 4 ∨ k = 5 ∨ k = 6 ∨ k = 7 := by omega
  rcases hcase with rfl | rfl | rfl | rfl | rfl | rfl | rfl | rfl
  · refine lv_tableIn (off := 43) (tgt := 44) hx hb dX0_fact_1 (by decide) (by decide) (by rfl) (by decide) ?_
    refine lv_aload_n hx hb dX0_fact_44 rfl (lv_at hl 0 rfl) ?_
    refine va_get (D := D) (ci := 0) (v := .int (f 0)) (C := RX0) (T := TX0) (N := 8) hx hb hts hinX0 hown hK.1 hP 0 rfl rfl 0 (by decide) (hts (.fieldLink RX0 9 "LoafMarks$Baker" "storeNumber" "I") (List.mem_of_getElem? (i := 1) rfl)) (fun _ h9 => h9) rfl dX0_fact_45 ?_
    exact xri () hx hb hr hlocks hS (Nat.le_of_ble_eq_true rfl) (Nat.le_of_ble_eq_true rfl) dX0_fact_48 hP hD rfl trivial
  · refine lv_tableIn (off := 48) (tgt := 49) hx hb dX0_fact_1 (by decide) (by decide) (by rfl) (by decide) ?_
    refine lv_aload_n hx hb dX0_fact_49 rfl (lv_at hl 0 rfl) ?_
    refine va_get (D := D) (ci := 0) (v := .int (f 1)) (C := RX0) (T := TX0) (N := 8) hx hb hts hinX0 hown hK.1 hP 0 rfl rfl 1 (by decide) (hts (.fieldLink RX0 15 "LoafMarks$Baker" "mark" "I") (List.mem_of_getElem? (i := 2) rfl)) (fun _ h9 => h9) rfl dX0_fact_50 ?_
    exact xri () hx hb hr hlocks hS (Nat.le_of_ble_eq_true rfl) (Nat.le_of_ble_eq_true rfl) dX0_fact_53 hP hD rfl trivial
  · refine lv_tableIn (off := 53) (tgt := 54) hx hb dX0_fact_1 (by decide) (by decide) (by rfl) (by decide) ?_
    refine lv_aload_n hx hb dX0_fact_54 rfl (lv_at hl 0 rfl) ?_
    refine va_get (D := D) (ci := 0) (v := .int (f 2)) (C := RX0) (T := TX0) (N := 8) hx hb hts hinX0 hown hK.1 hP 0 rfl rfl 2 (by decide) (hts (.fieldLink RX0 21 "LoafMarks$Baker" "ration" "I") (List.mem_of_getElem? (i := 3) rfl)) (fun _ h9 => h9) rfl dX0_fact_55 ?_
    exact xri () hx hb hr hlocks hS (Nat.le_of_ble_eq_true rfl) (Nat.le_of_ble_eq_true rfl) dX0_fact_58 hP hD rfl trivial
  · refine lv_tableIn (off := 58) (tgt := 59) hx hb dX0_fact_1 (by decide) (by decide) (by rfl) (by decide) ?_
    refine lv_aload_n hx hb dX0_fact_59 rfl (lv_at hl 0 rfl) ?_
    refine va_get (D := D) (ci := 0) (v := .int (f 3)) (C := RX0) (T := TX0) (N := 8) hx hb hts hinX0 hown hK.1 hP 0 rfl rfl 3 (by decide) (hts (.fieldLink RX0 24 "LoafMarks$Baker" "atHand" "I") (List.mem_of_getElem? (i := 4) rfl)) (fun _ h9 => h9) rfl dX0_fact_60 ?_
    exact xri () hx hb hr hlocks hS (Nat.le_of_ble_eq_true rfl) (Nat.le_of_ble_eq_true rfl) dX0_fact_63 hP hD rfl trivial
  · refine lv_tableIn (off := 63) (tgt := 64) hx hb dX0_fact_1 (by decide) (by decide) (by rfl) (by decide) ?_
    refine lv_aload_n hx hb dX0_fact_64 rfl (lv_at hl 0 rfl) ?_
    refine va_get (D := D) (ci := 0) (v := .int (f 4)) (C := RX0) (T := TX0) (N := 8) hx hb hts hinX0 hown hK.1 hP 0 rfl rfl 4 (by decide) (hts (.fieldLink RX0 18 "LoafMarks$Baker" "weight" "I") (List.mem_of_getElem? (i := 5) rfl)) (fun _ h9 => h9) rfl dX0_fact_65 ?_
    exact xri () hx hb hr hlocks hS (Nat.le_of_ble_eq_true rfl) (Nat.le_of_ble_eq_true rfl) dX0_fact_68 hP hD rfl trivial
  · refine lv_tableIn (off := 68) (tgt := 69) hx hb dX0_fact_1 (by decide) (by decide) (by rfl) (by decide) ?_
    refine lv_aload_n hx hb dX0_fact_69 rfl (lv_at hl 0 rfl) ?_
    refine va_get (D := D) (ci := 0) (v := .int (f 5)) (C := RX0) (T := TX0) (N := 8) hx hb hts hinX0 hown hK.1 hP 0 rfl rfl 5 (by decide) (hts (.fieldLink RX0 27 "LoafMarks$Baker" "shelf" "I") (List.mem_of_getElem? (i := 6) rfl)) (fun _ h9 => h9) rfl dX0_fact_70 ?_
    exact xri () hx hb hr hlocks hS (Nat.le_of_ble_eq_true rfl) (Nat.le_of_ble_eq_true rfl) dX0_fact_73 hP hD rfl trivial
  · refine lv_tableIn (off := 73) (tgt := 74) hx hb dX0_fact_1 (by decide) (by decide) (by rfl) (by decide) ?_
    refine lv_aload_n hx hb dX0_fact_74 rfl (lv_at hl 0 rfl) ?_
    refine va_get (D := D) (ci := 0) (v := .int (f 6)) (C := RX0) (T := TX0) (N := 8) hx hb hts hinX0 hown hK.1 hP 0 rfl rfl 6 (by decide) (hts (.fieldLink RX0 30 "LoafMarks$Baker" "sold" "I") (List.mem_of_getElem? (i := 7) rfl)) (fun _ h9 => h9) rfl dX0_fact_75 ?_
    exact xri () hx hb hr hlocks hS (Nat.le_of_ble_eq_true rfl) (Nat.le_of_ble_eq_true rfl) dX0_fact_78 hP hD rfl trivial
  · refine lv_tableOut (tgt := 79) hx hb dX0_fact_1 (by decide) (by decide) ?_
    refine lv_aload_n hx hb dX0_fact_79 rfl (lv_at hl 0 rfl) ?_
    refine va_get (D := D) (ci := 0) (v := .int (f 7)) (C := RX0) (T := TX0) (N := 8) hx hb hts hinX0 hown hK.1 hP 0 rfl rfl 7 (by decide) (hts (.fieldLink RX0 33 "LoafMarks$Baker" "barred" "Z") (List.mem_of_getElem? (i := 8) rfl)) (fun _ h9 => h9) rfl dX0_fact_80 ?_
    refine lv_if_eq (tgt := 90) hx hb dX0_fact_83 (by decide) (fun c83 => ?_) (fun c83 => ?_)
    · refine lv_iconst (v := 0) hx hb dX0_fact_90 (by decide) ?_
      exact xri () hx hb hr hlocks hS (Nat.le_of_ble_eq_true rfl) (Nat.le_of_ble_eq_true rfl) dX0_fact_91 hP hD (by show some (Value.int (bFact f 7)) = _; unfold bFact; rw [if_pos rfl, if_pos c83]) trivial
    · refine lv_iconst (v := 1) hx hb dX0_fact_86 (by decide) ?_
      refine lv_goto (tgt := 91) hx hb dX0_fact_87 (by decide) ?_
      exact xri () hx hb hr hlocks hS (Nat.le_of_ble_eq_true rfl) (Nat.le_of_ble_eq_true rfl) dX0_fact_91 hP hD (by show some (Value.int (bFact f 7)) = _; unfold bFact; rw [if_pos rfl, if_neg c83]) trivial
end
section
/-! ===== the town's world; the hour in numbers ===== -/
def zS (ad : Nat → Nat) (n : Nat) (st : Nat → Iu) : va_W := (List.range n).map fun i => (ad (4 + i), cSt (st i))
def zB (ad : Nat → Nat) (n : Nat) (bk : Nat → Iu) : va_W := (List.range n).map fun i => (ad (8 + i), cBk (bk i))
def rS (ad : Nat → Nat) (n : Nat) : Nat → Option Nat := fun i => if i < n then some (ad (4 + i)) else none
def rB (ad : Nat → Nat) (n : Nat) : Nat → Option Nat := fun i => if i < n then some (ad (8 + i)) else none
-- numbers: 0 hour, 1 people, 2 bought, 3 light, 4 hungry, 5 lost
abbrev cTn (ad : Nat → Nat) (nu : Iu) : va_E := .inr (2, [.ref (ad 1), .ref (ad 2), .ref (ad 3), .int (nu 0), .int (nu 1), .int (nu 2), .int (nu 3), .int (nu 4), .int (nu 5)])
abbrev tw4 (cy : Nat → ClassId) (ad : Nat → Nat) (nS nB : Nat) (gate nu : Iu) : va_W := [(ad 0, cTn ad nu), (ad 1, .inl (cy 0, 24, .inl gate)), (ad 2, .inl (cy 1, 4, .inr (.inr (.inr (.inr (rS ad nS)))))), (ad 3, .inl (cy 2, 6, .inr (.inr (.inr (.inr (rB ad nB))))))]
/-- the world of a town: addresses ad, nS stores st, nB bakers bk, the gate, the numbers nu -/
def tw (cy : Nat → ClassId) (ad : Nat → Nat) (nS nB : Nat) (st bk : Nat → Iu) (gate nu : Iu) : va_W := tw4 cy ad nS nB gate nu ++ (zS ad nS st ++ zB ad nB bk)
theorem rS_lt {ad : Nat → Nat} {n i : Nat} (h : i < n) : va_rf (rS ad n i) = .ref (ad (4 + i)) := by simp [rS, h, va_rf]
theorem rS_ge {ad : Nat → Nat} {n i : Nat} (h : n ≤ i) : va_rf (rS ad n i) = .null := by simp [rS, Nat.not_lt.mpr h, va_rf]
theorem rB_lt {ad : Nat → Nat} {n i : Nat} (h : i < n) : va_rf (rB ad n i) = .ref (ad (8 + i)) := by simp [rB, h, va_rf]
theorem rB_ge {ad : Nat → Nat} {n i : Nat} (h : n ≤ i) : va_rf (rB ad n i) = .null := by simp [rB, Nat.not_lt.mpr h, va_rf]
theorem zS_len {ad : Nat → Nat} {n : Nat} {st : Nat → Iu} : (zS ad n st).length = n := by simp [zS]
theorem zB_len {ad : Nat → Nat} {n : Nat} {bk : Nat → Iu} : (zB ad n bk).length = n := by simp [zB]
theorem zS_at {ad : Nat → Nat} {n i : Nat} {st : Nat → Iu} (h : i < n) : (zS ad n st)[i]? = some (ad (4 + i), cSt (st i)) := by simp [zS, h]
theorem zB_at {ad : Nat → Nat} {n i : Nat} {bk : Nat → Iu} (h : i < n) : (zB ad n bk)[i]? = some (ad (8 + i), cBk (bk i)) := by simp [zB, h]
theorem zS_set {ad : Nat → Nat} {n i : Nat} {st : Nat → Iu} {x : Iu} (h : i < n) : (zS ad n st).set i (ad (4 + i), cSt x) = zS ad n (va_up st i x) := by
  apply List.ext_getElem?
  intro k
  by_cases hk : k = i
  · subst hk
    rw [List.getElem?_set_self (by rw [zS_len]; exact h), zS_at h]
    simp [va_up]
  · rw [List.getElem?_set_ne (Ne.symm hk)]
    by_cases hn : k < n
    · rw [zS_at hn, zS_at hn]; simp [va_up, hk]
    · rw [List.getElem?_eq_none (by rw [zS_len]; omega), List.getElem?_eq_none (by rw [zS_len]; omega)]
theorem zB_set {ad : Nat → Nat} {n i : Nat} {bk : Nat → Iu} {x : Iu} (h : i < n) : (zB ad n bk).set i (ad (8 + i), cBk x) = zB ad n (va_up bk i x) := by
  apply List.ext_getElem?
  intro k
  by_cases hk : k = i
  · subst hk
    rw [List.getElem?_set_self (by rw [zB_len]; exact h), zB_at h]
    simp [va_up]
  · rw [List.getElem?_set_ne (Ne.symm hk)]
    by_cases hn : k < n
    · rw [zB_at hn, zB_at hn]; simp [va_up, hk]
    · rw [List.getElem?_eq_none (by rw [zB_len]; omega), List.getElem?_eq_none (by rw [zB_len]; omega)]
section TW
variable {cy : Nat → ClassId} {ad : Nat → Nat} {nS nB : Nat} {st bk : Nat → Iu} {gate nu : Iu}
theorem tw_st {i : Nat} (h : i < nS) : (tw cy ad nS nB st bk gate nu)[4 + i]? = some (ad (4 + i), cSt (st i)) := by
  unfold tw
  rw [List.getElem?_append_right (by simp), List.getElem?_append_left (by simp [zS_len]; omega)]
  simpa using zS_at h
theorem tw_bk {j : Nat} (h : j < nB) : (tw cy ad nS nB st bk gate nu)[4 + nS + j]? = some (ad (8 + j), cBk (bk j)) := by
  unfold tw
  rw [List.getElem?_append_right (by simp; omega), List.getElem?_append_right (by simp [zS_len]; omega)]
  have e : 4 + nS + j - (tw4 cy ad nS nB gate nu).length - (zS ad nS st).length = j := by simp [zS_len]; omega
  rw [e]
  exact zB_at h
theorem tw_set_st {i : Nat} {x : Iu} (h : i < nS) : (tw cy ad nS nB st bk gate nu).set (4 + i) (ad (4 + i), cSt x) = tw cy ad nS nB (va_up st i x) bk gate nu := by
  unfold tw
  rw [List.set_append_right _ _ (by simp), List.set_append_left _ _ (by simp [zS_len]; omega)]
  have e : 4 + i - (tw4 cy ad nS nB gate nu).length = i := by simp
  rw [e, zS_set h]
theorem tw_set_bk {j : Nat} {x : Iu} (h : j < nB) : (tw cy ad nS nB st bk gate nu).set (4 + nS + j) (ad (8 + j), cBk x) = tw cy ad nS nB st (va_up bk j x) gate nu := by
  unfold tw
  rw [List.set_append_right _ _ (by simp; omega), List.set_append_right _ _ (by simp [zS_len]; omega)]
  have e : 4 + nS + j - (tw4 cy ad nS nB gate nu).length - (zS ad nS st).length = j := by simp [zS_len]; omega
  rw [e, zB_set h]
theorem xE_st {i : Nat} (x : Iu) (h : i < nS) : xE (tw cy ad nS nB st bk gate nu) [(ad (4 + i), cSt (st i))] (fun _ : Unit => [(ad (4 + i), cSt x)]) (fun _ => tw cy ad nS nB (va_up st i x) bk gate nu) := by
  rw [← tw_set_st h]
  exact xE_one (4 + i) (tw_st h)
theorem xE_bk {j : Nat} (x : Iu) (h : j < nB) : xE (tw cy ad nS nB st bk gate nu) [(ad (8 + j), cBk (bk j))] (fun _ : Unit => [(ad (8 + j), cBk x)]) (fun _ => tw cy ad nS nB st (va_up bk j x) gate nu) := by
  rw [← tw_set_bk h]
  exact xE_one (4 + nS + j) (tw_bk h)
end TW
theorem up_self {α : Type} (f : Nat → α) (k : Nat) : va_up f k (f k) = f := by funext j; unfold va_up; split <;> simp_all
theorem up_at {α : Type} {f : Nat → α} {k : Nat} {v : α} : va_up f k v k = v := if_pos rfl
theorem up_ne {α : Type} {f : Nat → α} {k j : Nat} {v : α} (h : j ≠ k) : va_up f k v j = f j := if_neg h
-- arrays by a number for the place
section XARR
variable {p : Program} {l : Launch} {e : Env} {R : Room} {s : State} {m : MethodId} {args : Array Value} {below : List Frame} {meth : Method} {c : Code} {H H0 : Heap} {locs : List Loc} {cells slots : Nat} {Q : State → Prop} {cc : ByteArray} {pc : Nat} {ls : Array Slot} {rest : List Value} {D : va_G} {cy : Nat → ClassId} {A : Nat → Prop} {ws : va_W} {a n : Nat}
theorem xiald (hx : p.tables.exec = Jvm.exec) (hb : c.code = cc) (hK : XK D cy s) (hP : va_P D vwCl ws H) (q0 : Nat) {f : Iu} (ha : ws[q0]? = some (a, .inl (cy 0, n, .inl f))) (j : Nat) {i : Int32} (hi : i = nI j) (hj : j < n) (hn : n < 2 ^ 31) (hdg : decode cc pc = .ok (.iaload, 1))
    (kk : W p l e R s m args below meth c H locs cells slots Q (F0 m (pc + 1) ls (.int (f j) :: rest))) : W p l e R s m args below meth c H locs cells slots Q (F0 m pc ls (.int i :: .ref a :: rest)) := by
  subst hi
  refine va_iald hx hb hK.1 hP q0 0 ha rfl (vp_in_nI hj hn) hdg ?_
  rw [nI_clamp (by omega)]
  exact kk
theorem xaldq (hx : p.tables.exec = Jvm.exec) (hb : c.code = cc) (hK : XK D cy s) (hP : va_P D vwCl ws H) (q0 t0 : Nat) {cA : ClassId} {C : String} {f : Nat → Option Nat} (ha : ws[q0]? = some (a, .inl (cA, n, .inr (.inr (.inr (.inr f)))))) (ht : (xt cy)[t0]? = some (cA, .object C)) (j : Nat) {i : Int32} (hi : i = nI j) (hj : j < n) (hn : n < 2 ^ 31) (hdg : decode cc pc = .ok (.aaload, 1))
    (kk : W p l e R s m args below meth c H locs cells slots Q (F0 m (pc + 1) ls (va_rf (f j) :: rest))) : W p l e R s m args below meth c H locs cells slots Q (F0 m pc ls (.int i :: .ref a :: rest)) := by
  subst hi
  refine va_aldq hx hb hK.1 hP q0 t0 ha ht (vp_in_nI hj hn) hdg ?_
  rw [nI_clamp (by omega)]
  exact kk
theorem xiast (hx : p.tables.exec = Jvm.exec) (hb : c.code = cc) (hK : XK D cy s) (hP : va_P D vwCl ws H) (hD : va_D A ws) (hS : va_S A H0 H locs) (q0 : Nat) {f : Iu} (ha : ws[q0]? = some (a, .inl (cy 0, n, .inl f))) (j : Nat) {i x : Int32} (hi : i = nI j) (hj : j < n) (hn : n < 2 ^ 31) (hdg : decode cc pc = .ok (.iastore, 1))
    (kk : ∀ (H1 : Heap) (locs1 : List Loc), va_P D vwCl (ws.set q0 (a, .inl (cy 0, n, .inl (upd f j x)))) H1 → va_D A (ws.set q0 (a, .inl (cy 0, n, .inl (upd f j x)))) → va_S A H0 H1 locs1 → W p l e R s m args below meth c H1 locs1 cells slots Q (F0 m (pc + 1) ls rest)) : W p l e R s m args below meth c H locs cells slots Q (F0 m pc ls (.int x :: .int i :: .ref a :: rest)) := by
  subst hi
  refine va_iast hx hb hK.1 hP hD hS q0 0 ha rfl (vp_in_nI hj hn) hdg ?_
  rw [nI_clamp (by omega)]
  exact kk
end XARR
-- the hour in numbers
def sm (g : Nat → Int32) : Nat → Int32
  | 0 => 0
  | n + 1 => sm g n + g n
def sAt (ad : Nat → Nat) (nS : Nat) (x : Int32) : Option Nat := if x < 0 then none else rS ad nS x.toNatClampNeg
def bAt (ad : Nat → Nat) (nB : Nat) (x : Int32) : Option Nat := if x < 0 then none else rB ad nB x.toNatClampNeg
def ownF (bk : Nat → Iu) (mk : Int32) : Nat → Nat → Int32
  | 0, _ => -1
  | n + 1, i => if bk i 1 = mk then nI i else ownF bk mk n (i + 1)
/-- the place of the store with the least flour among the first n -/
def emp (st : Nat → Iu) : Nat → Nat
  | 0 => 0
  | n + 1 => if n = 0 then 0 else if st n 0 < st (emp st n) 0 then n else emp st n
def feedN (st : Nat → Iu) : Nat → (Nat → Iu)
  | 0 => st
  | n + 1 => va_up (feedN st n) n (sFeed (feedN st n n))
def bakeN (bk : Nat → Iu) : Nat → (Nat → Iu)
  | 0 => bk
  | n + 1 => va_up (bakeN bk n) n (bBake (bakeN bk n n))
abbrev T2 : Type := (Nat → Iu) × (Nat → Iu)
def dlStep (u : T2) (j s : Nat) : T2 := if u.2 j 7 = 0 then (va_up u.1 s (sGive (u.1 s) (u.2 j 2)), va_up u.2 j (upd (u.2 j) 3 (u.2 j 3 + mn (u.2 j 2) (u.1 s 0)))) else u
def dlN (u : T2) : Nat → T2
  | 0 => u
  | n + 1 => dlStep (dlN u n) n (((dlN u n).2 n 0).toNatClampNeg)
abbrev TL : Type := Int32 × (Nat → Iu) × Iu
def slStep (u : TL) (j : Nat) : TL := (u.1 - mn u.1 (u.2.1 j 5), va_up u.2.1 j (bSell (u.2.1 j) u.1), if u.2.1 j 4 < 10 then upd (upd u.2.2 2 (u.2.2 2 + mn u.1 (u.2.1 j 5))) 3 (u.2.2 3 + mn u.1 (u.2.1 j 5)) else upd u.2.2 2 (u.2.2 2 + mn u.1 (u.2.1 j 5)))
def slN (u : TL) : Nat → TL
  | 0 => u
  | n + 1 => slStep (slN u n) n
/-- a town's state: stores, bakers, numbers -/
abbrev TS : Type := (Nat → Iu) × (Nat → Iu) × Iu
def hCart (nS : Nat) (load : Int32) (u : TS) : TS := if nS = 0 then u else (va_up u.1 (emp u.1 nS) (sTake (u.1 (emp u.1 nS)) load), u.2.1, upd u.2.2 5 (u.2.2 5 + (load - mn load (900 - u.1 (emp u.1 nS) 0))))
def hNight (nS nB : Nat) (u : TS) : TS := (feedN (dlN (u.1, u.2.1) nB).1 nS, (dlN (u.1, u.2.1) nB).2, u.2.2)
def hBake (nB : Nat) (u : TS) : TS := (u.1, bakeN u.2.1 nB, u.2.2)
def hLeft (nB : Nat) (u : TS) : Int32 := (slN (u.2.2 1, u.2.1, u.2.2) nB).1
def hNoon (nB : Nat) (u : TS) : TS := (u.1, (slN (u.2.2 1, u.2.1, u.2.2) nB).2.1, upd (slN (u.2.2 1, u.2.1, u.2.2) nB).2.2 4 ((slN (u.2.2 1, u.2.1, u.2.2) nB).2.2 4 + hLeft nB u))
/-- the hour up to noon's sale, in the hour k of the day -/
def hMorn (nS nB k : Nat) (gate : Iu) (u : TS) : TS := hBake nB (if k = 0 then hNight nS nB (hCart nS (gate k) u) else hCart nS (gate k) u)
def hUnfed (nS nB k : Nat) (gate : Iu) (u : TS) : Int32 := if k = 12 then hLeft nB (hMorn nS nB k gate u) else 0
def hSale (nS nB k : Nat) (gate : Iu) (u : TS) : TS := if k = 12 then hNoon nB (hMorn nS nB k gate u) else hMorn nS nB k gate u
def hTick (u : TS) : TS := (u.1, u.2.1, upd u.2.2 0 (u.2.2 0 + 1))
def hour1 (nS nB k : Nat) (gate : Iu) (u : TS) : TS := hTick (hSale nS nB k gate u)
/-- n hours from the hour h -/
def hrs (nS nB h : Nat) (gate : Iu) (u : TS) : Nat → TS
  | 0 => u
  | n + 1 => hour1 nS nB ((h + n) % 24) gate (hrs nS nB h gate u n)
def unf (nS nB h : Nat) (gate : Iu) (u : TS) : Nat → Int32
  | 0 => 0
  | n + 1 => unf nS nB h gate u n + hUnfed nS nB ((h + n) % 24) gate (hrs nS nB h gate u n)
end
section
/-! ===== the town: reads (laid by gen11.py) ===== -/
theorem x_nI {x : Int32} (h : ¬ x < 0) : x = nI x.toNatClampNeg := by
  obtain ⟨j, hj, rfl⟩ := nI_of h
  rw [nI_clamp hj]
theorem x_lt {x : Int32} (h : ¬ x < 0) {N : Nat} (hN : N < 2 ^ 31) (h2 : ¬ nI N ≤ x) : x.toNatClampNeg < N := by
  obtain ⟨j, hj, rfl⟩ := nI_of h
  rw [nI_clamp hj]
  exact Decidable.byContradiction fun g => h2 (nI_le (by omega) hj)
theorem xAt_noneS {ad : Nat → Nat} {nS : Nat} {x : Int32} (hn : nS ≤ 4) (h : x < 0 ∨ (4 : Int32) ≤ x) : va_rf (sAt ad nS x) = .null := by
  unfold sAt
  by_cases h0 : x < 0
  · rw [if_pos h0]; rfl
  · rw [if_neg h0]
    rcases h with h | h
    · exact absurd h h0
    · obtain ⟨j, hj, rfl⟩ := nI_of h0
      rw [nI_clamp hj]
      exact rS_ge (Nat.le_trans hn ((nI_leI (a := 4) (by decide) hj).mp h))
theorem xAt_noneB {ad : Nat → Nat} {nB : Nat} {x : Int32} (hcap : nB ≤ 6) (h : x < 0 ∨ (6 : Int32) ≤ x) : va_rf (bAt ad nB x) = .null := by
  unfold bAt
  by_cases h0 : x < 0
  · rw [if_pos h0]; rfl
  · rw [if_neg h0]
    rcases h with h | h
    · exact absurd h h0
    · obtain ⟨j, hj, rfl⟩ := nI_of h0
      rw [nI_clamp hj]
      exact rB_ge (Nat.le_trans hcap ((nI_leI (a := 6) (by decide) hj).mp h))
theorem sAt_nI {ad : Nat → Nat} {nS i : Nat} (h : i < nS) (h2 : nS ≤ 4) : va_rf (sAt ad nS (nI i)) = .ref (ad (4 + i)) := by
  unfold sAt
  rw [if_neg (nI_pos (by omega)), nI_clamp (by omega)]
  exact rS_lt h
theorem bAt_nI {ad : Nat → Nat} {nB i : Nat} (h : i < nB) (h2 : nB ≤ 6) : va_rf (bAt ad nB (nI i)) = .ref (ad (8 + i)) := by
  unfold bAt
  rw [if_neg (nI_pos (by omega)), nI_clamp (by omega)]
  exact rB_lt h
theorem sAt_none {ad : Nat → Nat} {nS : Nat} {x : Int32} (h : ¬ vp_in x nS) : va_rf (sAt ad nS x) = .null := by
  unfold sAt
  by_cases h0 : x < 0
  · rw [if_pos h0]; rfl
  · rw [if_neg h0]
    exact rS_ge (Decidable.byContradiction fun g => h (fun z => z.elim h0 (fun q => g q)))
theorem bAt_none {ad : Nat → Nat} {nB : Nat} {x : Int32} (h : ¬ vp_in x nB) : va_rf (bAt ad nB x) = .null := by
  unfold bAt
  by_cases h0 : x < 0
  · rw [if_pos h0]; rfl
  · rw [if_neg h0]
    exact rB_ge (Decidable.byContradiction fun g => h (fun z => z.elim h0 (fun q => g q)))
theorem min_l {i n : Nat} (h : i < n) : min i n = i := by omega
theorem min_s {i n : Nat} (h : i < n) : min (i + 1) n = i + 1 := by omega
theorem min_g {i n : Nat} (h : n ≤ i) : min (i + 1) n = min i n := by omega
set_option maxHeartbeats 4000000 in
set_option maxRecDepth 100000 in
/-- gateAt, in the day -/
theorem c_X2_gateAt (l : Launch) (D : va_G) (cy : Nat → ClassId) (ad : Nat → Nat) (nS nB : Nat) (st bk : Nat → Iu) (gate nu : Iu) (k : Nat) (hk : k < 24) : xM l D cy yX2_gateAt wsX2_gateAt ({ frames := 0, cells := 0, slots := 0, locals := 0 } : Room) [.ref (ad 0), .int (nI k)] (tw cy ad nS nB st bk gate nu) (fun _ : Unit => some (.int (gate k))) (fun _ => True) (fun _ => tw cy ad nS nB st bk gate nu) := by
  refine xM.of cX2_gateAt 2 (some .int) RX2 (by decide +kernel) rfl rfl (Nat.le_of_ble_eq_true rfl) ?_
  intro p e s m below meth c A ls hx hb hr hts hown hlocks hml hin hK hA hP hD hS hl
  have hl : lv_has ls 2 [(0, .ref (ad 0)), (1, .int (nI k))] := hl
  have hinX2 : ∀ w ∈ wsX20, w ∈ wsX2_gateAt := fun _ h => List.mem_cons_of_mem _ (List.mem_append_right _ h)
  refine lv_iload_n hx hb dX2_gateAt_0 rfl (lv_at hl 1 rfl) ?_
  refine lv_if_lt (tgt := 22) hx hb dX2_gateAt_1 (by decide) (fun h => absurd h (nI_pos (by omega))) (fun _ => ?_)
  refine lv_iload_n hx hb dX2_gateAt_4 rfl (lv_at hl 1 rfl) ?_
  refine lv_aload_n hx hb dX2_gateAt_5 rfl (lv_at hl 0 rfl) ?_
  refine va_get (D := D) (ci := 2) (v := .ref (ad 1)) (C := RX2) (T := TX2) (N := 9) hx hb hts hinX2 hown hK.1 hP 0 rfl rfl 0 (by decide) (hts (.fieldLink RX2 9 "LoafMarks$Town" "gate" "[I") (List.mem_of_getElem? (i := 1) rfl)) (fun _ h9 => h9) rfl dX2_gateAt_6 ?_
  refine va_alen hx hb hK.1 hP 1 0 rfl rfl (v := 24) rfl dX2_gateAt_9 ?_
  refine lv_icmp_ge (tgt := 22) hx hb dX2_gateAt_10 (by decide) (fun h => absurd h (nI_ge (b := 24) hk (by decide))) (fun _ => ?_)
  refine lv_aload_n hx hb dX2_gateAt_13 rfl (lv_at hl 0 rfl) ?_
  refine va_get (D := D) (ci := 2) (v := .ref (ad 1)) (C := RX2) (T := TX2) (N := 9) hx hb hts hinX2 hown hK.1 hP 0 rfl rfl 0 (by decide) (hts (.fieldLink RX2 9 "LoafMarks$Town" "gate" "[I") (List.mem_of_getElem? (i := 1) rfl)) (fun _ h9 => h9) rfl dX2_gateAt_14 ?_
  refine lv_iload_n hx hb dX2_gateAt_17 rfl (lv_at hl 1 rfl) ?_
  refine xiald hx hb hK hP 1 rfl k rfl (by omega) (by decide) dX2_gateAt_18 ?_
  refine lv_goto (tgt := 23) hx hb dX2_gateAt_19 (by decide) ?_
  exact xri () hx hb hr hlocks hS (Nat.le_of_ble_eq_true rfl) (Nat.le_of_ble_eq_true rfl) dX2_gateAt_23 hP hD rfl trivial

set_option maxHeartbeats 4000000 in
set_option maxRecDepth 100000 in
/-- changeGate, in the day -/
theorem c_X2_changeGate (l : Launch) (D : va_G) (cy : Nat → ClassId) (ad : Nat → Nat) (nS nB : Nat) (st bk : Nat → Iu) (gate nu : Iu) (k : Nat) (hk : k < 24) (p1 : Int32) : xM l D cy yX2_changeGate wsX2_changeGate ({ frames := 1, cells := 0, slots := 0, locals := 30 } : Room) [.ref (ad 0), .int (nI k), .int p1] (tw cy ad nS nB st bk gate nu) (fun _ : Unit => some (.int (gate k))) (fun _ => True) (fun _ => tw cy ad nS nB st bk (upd gate k p1) nu) := by
  refine xM.of cX2_changeGate 4 (some .int) RX2 (by decide +kernel) rfl rfl (Nat.le_of_ble_eq_true rfl) ?_
  intro p e s m below meth c A ls hx hb hr hts hown hlocks hml hin hK hA hP hD hS hl
  have hl : lv_has ls 4 [(0, .ref (ad 0)), (1, .int (nI k)), (2, .int p1)] := hl
  have hinX2 : ∀ w ∈ wsX20, w ∈ wsX2_changeGate := fun _ h => List.mem_cons_of_mem _ (List.mem_append_right _ h)
  refine lv_aload_n hx hb dX2_changeGate_0 rfl (lv_at hl 0 rfl) ?_
  refine lv_iload_n hx hb dX2_changeGate_1 rfl (lv_at hl 1 rfl) ?_
  refine xcV (As := [.int (nI k)]) (rest := []) ⟨hx, hb, hml, hown, hts⟩ (c_X2_gateAt l D cy ad nS nB st bk gate nu k (by omega)) (cwV 1 hts gX2_changeGate_X2_gateAt rfl rfl rfl (by decide +kernel) ⟨Nat.le_of_ble_eq_true rfl, Nat.le_of_ble_eq_true rfl⟩) hK hP hD hS hA rfl rfl rfl (xE_all) rfl hl.1 rfl (Nat.le_of_ble_eq_true rfl) dX2_changeGate_2 ⟨Nat.le_of_ble_eq_true rfl, Nat.le_of_ble_eq_true rfl⟩ (fun _ H locs _ hP hD hS => ?_)
  have hP : va_P D vwCl (tw cy ad nS nB st bk gate nu) H := hP
  have hD : va_D A (tw cy ad nS nB st bk gate nu) := hD
  refine W.eq (g2 := F0 m 5 ls [.int (gate k)]) rfl ?_
  refine lv_istore_n (lv' := [(3, .int (gate k)), (0, .ref (ad 0)), (1, .int (nI k)), (2, .int p1)]) hx hb dX2_changeGate_5 rfl hl (by decide) rfl (fun ls hl => ?_)
  refine lv_iload_n hx hb dX2_changeGate_6 rfl (lv_at hl 2 rfl) ?_
  refine lv_if_lt (tgt := 26) hx hb dX2_changeGate_7 (by decide) (fun h => absurd h (nI_pos (by omega))) (fun _ => ?_)
  refine lv_iload_n hx hb dX2_changeGate_10 rfl (lv_at hl 2 rfl) ?_
  refine lv_aload_n hx hb dX2_changeGate_11 rfl (lv_at hl 1 rfl) ?_
  refine va_get (D := D) (ci := 2) (v := .ref (ad 1)) (C := RX2) (T := TX2) (N := 9) hx hb hts hinX2 hown hK.1 hP 0 rfl rfl 0 (by decide) (hts (.fieldLink RX2 9 "LoafMarks$Town" "gate" "[I") (List.mem_of_getElem? (i := 1) rfl)) (fun _ h9 => h9) rfl dX2_changeGate_12 ?_
  refine va_alen hx hb hK.1 hP 1 0 rfl rfl (v := 24) rfl dX2_changeGate_15 ?_
  refine lv_icmp_ge (tgt := 26) hx hb dX2_changeGate_16 (by decide) (fun h => absurd h (nI_ge (b := 24) hk (by decide))) (fun _ => ?_)
  refine lv_aload_n hx hb dX2_changeGate_19 rfl (lv_at hl 1 rfl) ?_
  refine va_get (D := D) (ci := 2) (v := .ref (ad 1)) (C := RX2) (T := TX2) (N := 9) hx hb hts hinX2 hown hK.1 hP 0 rfl rfl 0 (by decide) (hts (.fieldLink RX2 9 "LoafMarks$Town" "gate" "[I") (List.mem_of_getElem? (i := 1) rfl)) (fun _ h9 => h9) rfl dX2_changeGate_20 ?_
  refine lv_iload_n hx hb dX2_changeGate_23 rfl (lv_at hl 2 rfl) ?_
  refine lv_iload_n hx hb dX2_changeGate_24 rfl (lv_at hl 3 rfl) ?_
  refine xiast hx hb hK hP hD hS 1 rfl k rfl (by omega) (by decide) dX2_changeGate_25 (fun H locs hP hD hS => ?_)
  have hP : va_P D vwCl (tw cy ad nS nB st bk (upd gate k p1) nu) H := hP
  have hD : va_D A (tw cy ad nS nB st bk (upd gate k p1) nu) := hD
  refine lv_iload_n hx hb dX2_changeGate_26 rfl (lv_at hl 0 rfl) ?_
  exact xri () hx hb hr hlocks hS (Nat.le_of_ble_eq_true rfl) (Nat.le_of_ble_eq_true rfl) dX2_changeGate_27 hP hD rfl trivial

set_option maxHeartbeats 4000000 in
set_option maxRecDepth 100000 in
/-- storeAt: any number -/
theorem c_X2_storeAt (l : Launch) (D : va_G) (cy : Nat → ClassId) (ad : Nat → Nat) (nS nB : Nat) (st bk : Nat → Iu) (gate nu : Iu) (p0 : Int32) (hcap : nS ≤ 4) : xM l D cy yX2_storeAt wsX2_storeAt ({ frames := 0, cells := 0, slots := 0, locals := 0 } : Room) [.ref (ad 0), .int p0] (tw cy ad nS nB st bk gate nu) (fun _ : Unit => some (va_rf (sAt ad nS p0))) (fun _ => True) (fun _ => tw cy ad nS nB st bk gate nu) := by
  refine xM.of cX2_storeAt 2 (some (.object "LoafMarks$Store")) RX2 (by decide +kernel) rfl rfl (Nat.le_of_ble_eq_true rfl) ?_
  intro p e s m below meth c A ls hx hb hr hts hown hlocks hml hin hK hA hP hD hS hl
  have hl : lv_has ls 2 [(0, .ref (ad 0)), (1, .int p0)] := hl
  have hinX2 : ∀ w ∈ wsX20, w ∈ wsX2_storeAt := fun _ h => List.mem_cons_of_mem _ (List.mem_append_right _ h)
  refine lv_iload_n hx hb dX2_storeAt_0 rfl (lv_at hl 1 rfl) ?_
  refine lv_if_lt (tgt := 22) hx hb dX2_storeAt_1 (by decide) (fun c1 => ?_) (fun c1 => ?_)
  · refine lv_null hx hb dX2_storeAt_22 ?_
    exact xra () hx hb hr (Or.inl ⟨_, rfl⟩) (Or.inl rfl) hlocks hS (Nat.le_of_ble_eq_true rfl) (Nat.le_of_ble_eq_true rfl) dX2_storeAt_23 hP hD (congrArg some (xAt_noneS hcap (Or.inl c1))) trivial
  · refine lv_iload_n hx hb dX2_storeAt_4 rfl (lv_at hl 1 rfl) ?_
    refine lv_aload_n hx hb dX2_storeAt_5 rfl (lv_at hl 0 rfl) ?_
    refine va_get (D := D) (ci := 2) (v := .ref (ad 2)) (C := RX2) (T := TX2) (N := 9) hx hb hts hinX2 hown hK.1 hP 0 rfl rfl 1 (by decide) (hts (.fieldLink RX2 17 "LoafMarks$Town" "stores" "[LLoafMarks$Store;") (List.mem_of_getElem? (i := 1) rfl)) (fun _ h9 => h9) rfl dX2_storeAt_6 ?_
    refine va_alen hx hb hK.1 hP 2 1 rfl rfl (v := 4) rfl dX2_storeAt_9 ?_
    refine lv_icmp_ge (tgt := 22) hx hb dX2_storeAt_10 (by decide) (fun c10 => ?_) (fun c10 => ?_)
    · refine lv_null hx hb dX2_storeAt_22 ?_
      exact xra () hx hb hr (Or.inl ⟨_, rfl⟩) (Or.inl rfl) hlocks hS (Nat.le_of_ble_eq_true rfl) (Nat.le_of_ble_eq_true rfl) dX2_storeAt_23 hP hD (congrArg some (xAt_noneS hcap (Or.inr c10))) trivial
    · refine lv_aload_n hx hb dX2_storeAt_13 rfl (lv_at hl 0 rfl) ?_
      refine va_get (D := D) (ci := 2) (v := .ref (ad 2)) (C := RX2) (T := TX2) (N := 9) hx hb hts hinX2 hown hK.1 hP 0 rfl rfl 1 (by decide) (hts (.fieldLink RX2 17 "LoafMarks$Town" "stores" "[LLoafMarks$Store;") (List.mem_of_getElem? (i := 1) rfl)) (fun _ h9 => h9) rfl dX2_storeAt_14 ?_
      refine lv_iload_n hx hb dX2_storeAt_17 rfl (lv_at hl 1 rfl) ?_
      refine xaldq hx hb hK hP 2 1 rfl rfl p0.toNatClampNeg (x_nI c1) (x_lt c1 (N := 4) (by decide) c10) (by decide) dX2_storeAt_18 ?_
      refine lv_goto (tgt := 23) hx hb dX2_storeAt_19 (by decide) ?_
      exact xra () hx hb hr (Or.inl ⟨_, rfl⟩) (va_rf_or _) hlocks hS (Nat.le_of_ble_eq_true rfl) (Nat.le_of_ble_eq_true rfl) dX2_storeAt_23 hP hD (congrArg some (by show va_rf (sAt ad nS p0) = va_rf (rS ad nS p0.toNatClampNeg); unfold sAt; rw [if_neg c1])) trivial

set_option maxHeartbeats 4000000 in
set_option maxRecDepth 100000 in
/-- bakerAt: any number -/
theorem c_X2_bakerAt (l : Launch) (D : va_G) (cy : Nat → ClassId) (ad : Nat → Nat) (nS nB : Nat) (st bk : Nat → Iu) (gate nu : Iu) (p0 : Int32) (hcap : nB ≤ 6) : xM l D cy yX2_bakerAt wsX2_bakerAt ({ frames := 0, cells := 0, slots := 0, locals := 0 } : Room) [.ref (ad 0), .int p0] (tw cy ad nS nB st bk gate nu) (fun _ : Unit => some (va_rf (bAt ad nB p0))) (fun _ => True) (fun _ => tw cy ad nS nB st bk gate nu) := by
  refine xM.of cX2_bakerAt 2 (some (.object "LoafMarks$Baker")) RX2 (by decide +kernel) rfl rfl (Nat.le_of_ble_eq_true rfl) ?_
  intro p e s m below meth c A ls hx hb hr hts hown hlocks hml hin hK hA hP hD hS hl
  have hl : lv_has ls 2 [(0, .ref (ad 0)), (1, .int p0)] := hl
  have hinX2 : ∀ w ∈ wsX20, w ∈ wsX2_bakerAt := fun _ h => List.mem_cons_of_mem _ (List.mem_append_right _ h)
  refine lv_iload_n hx hb dX2_bakerAt_0 rfl (lv_at hl 1 rfl) ?_
  refine lv_if_lt (tgt := 22) hx hb dX2_bakerAt_1 (by decide) (fun c1 => ?_) (fun c1 => ?_)
  · refine lv_null hx hb dX2_bakerAt_22 ?_
    exact xra () hx hb hr (Or.inl ⟨_, rfl⟩) (Or.inl rfl) hlocks hS (Nat.le_of_ble_eq_true rfl) (Nat.le_of_ble_eq_true rfl) dX2_bakerAt_23 hP hD (congrArg some (xAt_noneB hcap (Or.inl c1))) trivial
  · refine lv_iload_n hx hb dX2_bakerAt_4 rfl (lv_at hl 1 rfl) ?_
    refine lv_aload_n hx hb dX2_bakerAt_5 rfl (lv_at hl 0 rfl) ?_
    refine va_get (D := D) (ci := 2) (v := .ref (ad 3)) (C := RX2) (T := TX2) (N := 9) hx hb hts hinX2 hown hK.1 hP 0 rfl rfl 2 (by decide) (hts (.fieldLink RX2 23 "LoafMarks$Town" "bakers" "[LLoafMarks$Baker;") (List.mem_of_getElem? (i := 1) rfl)) (fun _ h9 => h9) rfl dX2_bakerAt_6 ?_
    refine va_alen hx hb hK.1 hP 3 2 rfl rfl (v := 6) rfl dX2_bakerAt_9 ?_
    refine lv_icmp_ge (tgt := 22) hx hb dX2_bakerAt_10 (by decide) (fun c10 => ?_) (fun c10 => ?_)
    · refine lv_null hx hb dX2_bakerAt_22 ?_
      exact xra () hx hb hr (Or.inl ⟨_, rfl⟩) (Or.inl rfl) hlocks hS (Nat.le_of_ble_eq_true rfl) (Nat.le_of_ble_eq_true rfl) dX2_bakerAt_23 hP hD (congrArg some (xAt_noneB hcap (Or.inr c10))) trivial
    · refine lv_aload_n hx hb dX2_bakerAt_13 rfl (lv_at hl 0 rfl) ?_
      refine va_get (D := D) (ci := 2) (v := .ref (ad 3)) (C := RX2) (T := TX2) (N := 9) hx hb hts hinX2 hown hK.1 hP 0 rfl rfl 2 (by decide) (hts (.fieldLink RX2 23 "LoafMarks$Town" "bakers" "[LLoafMarks$Baker;") (List.mem_of_getElem? (i := 1) rfl)) (fun _ h9 => h9) rfl dX2_bakerAt_14 ?_
      refine lv_iload_n hx hb dX2_bakerAt_17 rfl (lv_at hl 1 rfl) ?_
      refine xaldq hx hb hK hP 3 2 rfl rfl p0.toNatClampNeg (x_nI c1) (x_lt c1 (N := 6) (by decide) c10) (by decide) dX2_bakerAt_18 ?_
      refine lv_goto (tgt := 23) hx hb dX2_bakerAt_19 (by decide) ?_
      exact xra () hx hb hr (Or.inl ⟨_, rfl⟩) (va_rf_or _) hlocks hS (Nat.le_of_ble_eq_true rfl) (Nat.le_of_ble_eq_true rfl) dX2_bakerAt_23 hP hD (congrArg some (by show va_rf (bAt ad nB p0) = va_rf (rB ad nB p0.toNatClampNeg); unfold bAt; rw [if_neg c1])) trivial

set_option maxHeartbeats 4000000 in
set_option maxRecDepth 100000 in
/-- flourOfAll -/
theorem c_X2_flourOfAll (l : Launch) (D : va_G) (cy : Nat → ClassId) (ad : Nat → Nat) (nS nB : Nat) (st bk : Nat → Iu) (gate nu : Iu)  (hcap : nS ≤ 4) : xM l D cy yX2_flourOfAll wsX2_flourOfAll ({ frames := 0, cells := 0, slots := 0, locals := 0 } : Room) [.ref (ad 0)] (tw cy ad nS nB st bk gate nu) (fun _ : Unit => some (.int (sm (fun i => st i 0) nS))) (fun _ => True) (fun _ => tw cy ad nS nB st bk gate nu) := by
  refine xM.of cX2_flourOfAll 6 (some .int) RX2 (by decide +kernel) rfl rfl (Nat.le_of_ble_eq_true rfl) ?_
  intro p e s m below meth c A ls hx hb hr hts hown hlocks hml hin hK hA hP hD hS hl
  have hl : lv_has ls 6 [(0, .ref (ad 0))] := hl
  have hinX1 : ∀ w ∈ wsX10, w ∈ wsX2_flourOfAll := fun _ h => List.mem_cons_of_mem _ (List.mem_append_right _ h)
  have hinX2 : ∀ w ∈ wsX20, w ∈ wsX2_flourOfAll := fun _ h => List.mem_cons_of_mem _ (List.mem_append_left _ (List.mem_append_right _ h))
  refine lv_iconst (v := 0) hx hb dX2_flourOfAll_0 (by decide) ?_
  refine lv_istore_n (lv' := [(1, .int 0), (0, .ref (ad 0))]) hx hb dX2_flourOfAll_1 rfl hl (by decide) rfl (fun ls hl => ?_)
  refine lv_aload_n hx hb dX2_flourOfAll_2 rfl (lv_at hl 1 rfl) ?_
  refine va_get (D := D) (ci := 2) (v := .ref (ad 2)) (C := RX2) (T := TX2) (N := 9) hx hb hts hinX2 hown hK.1 hP 0 rfl rfl 1 (by decide) (hts (.fieldLink RX2 17 "LoafMarks$Town" "stores" "[LLoafMarks$Store;") (List.mem_of_getElem? (i := 1) rfl)) (fun _ h9 => h9) rfl dX2_flourOfAll_3 ?_
  refine lv_astore_n (lv' := [(2, .ref (ad 2)), (1, .int 0), (0, .ref (ad 0))]) hx hb dX2_flourOfAll_6 rfl hl (by decide) rfl (fun ls hl => ?_)
  refine lv_aload_n hx hb dX2_flourOfAll_7 rfl (lv_at hl 0 rfl) ?_
  refine va_alen hx hb hK.1 hP 2 1 rfl rfl (v := 4) rfl dX2_flourOfAll_8 ?_
  refine lv_istore_n (lv' := [(3, .int 4), (2, .ref (ad 2)), (1, .int 0), (0, .ref (ad 0))]) hx hb dX2_flourOfAll_9 rfl hl (by decide) rfl (fun ls hl => ?_)
  refine lv_iconst (v := 0) hx hb dX2_flourOfAll_10 (by decide) ?_
  refine lv_istore (lv' := [(4, .int 0), (3, .int 4), (2, .ref (ad 2)), (1, .int 0), (0, .ref (ad 0))]) hx hb dX2_flourOfAll_11 hl (by decide) rfl (fun ls hl => ?_)
  have loop : ∀ (n i : Nat) (sv : Int32) (H : Heap) (locs : List Loc) (ls : Array Slot), i + n = 4 → (sv = sm (fun i => st i 0) (min i nS)) → va_P D vwCl (tw cy ad nS nB st bk gate nu) H → va_D A (tw cy ad nS nB st bk gate nu) → va_S A s.heap H locs → lv_has ls 6 [(0, .ref (ad 0)), (1, .int sv), (2, .ref (ad 2)), (3, .int 4), (4, .int (nI i))] → W p l e ({ frames := 0, cells := 0, slots := 0, locals := 0 } : Room) s m ([.ref (ad 0)] : List Value).toArray below meth c H locs 0 0 (MQ below (xQ D A (fun _ : Unit => some (.int (sm (fun i => st i 0) nS))) (fun _ => True) (fun _ => tw cy ad nS nB st bk gate nu)) ([.ref (ad 0)] : List Value).toArray s 0 0 A) (F0 m 13 ls []) := by
    intro n
    induction n with
    | zero =>
      intro i sv H locs ls hns hinv hP hD hS hl
      have hii : i = 4 := by omega
      refine lv_iload hx hb dX2_flourOfAll_13 (lv_at hl 4 rfl) ?_
      refine lv_iload_n hx hb dX2_flourOfAll_15 rfl (lv_at hl 3 rfl) ?_
      refine lv_icmp_ge (tgt := 44) hx hb dX2_flourOfAll_16 (by decide) (fun _ => ?_) (fun h => absurd (by rw [hii]; exact Int32.le_refl _) h)
      refine lv_iload_n hx hb dX2_flourOfAll_44 rfl (lv_at hl 1 rfl) ?_
      exact xri () hx hb hr hlocks hS (Nat.le_of_ble_eq_true rfl) (Nat.le_of_ble_eq_true rfl) dX2_flourOfAll_45 hP hD (by show some (Value.int (sm (fun i => st i 0) nS)) = some (Value.int sv); rw [hinv, hii, Nat.min_eq_right hcap]) trivial
    | succ n ih =>
      intro i sv H locs ls hns hinv hP hD hS hl
      have hlt : i < 4 := by omega
      refine lv_iload hx hb dX2_flourOfAll_13 (lv_at hl 4 rfl) ?_
      refine lv_iload_n hx hb dX2_flourOfAll_15 rfl (lv_at hl 3 rfl) ?_
      refine lv_icmp_ge (tgt := 44) hx hb dX2_flourOfAll_16 (by decide) (fun h => absurd h (nI_ge (b := 4) hlt (by omega))) (fun _ => ?_)
      refine lv_aload_n hx hb dX2_flourOfAll_19 rfl (lv_at hl 2 rfl) ?_
      refine lv_iload hx hb dX2_flourOfAll_20 (lv_at hl 4 rfl) ?_
      refine xaldq hx hb hK hP 2 1 rfl rfl i rfl (by omega) (by decide) dX2_flourOfAll_22 ?_
      rcases Nat.lt_or_ge i nS with hi | hi
      · refine W.eq (g2 := F0 m 23 ls [.ref (ad (4 + i))]) (by rw [rS_lt hi]) ?_
        refine lv_astore (lv' := [(5, .ref (ad (4 + i))), (0, .ref (ad 0)), (1, .int sv), (2, .ref (ad 2)), (3, .int 4), (4, .int (nI i))]) hx hb dX2_flourOfAll_23 hl (by decide) rfl (fun ls hl => ?_)
        refine lv_aload hx hb dX2_flourOfAll_25 (lv_at hl 0 rfl) ?_
        refine lv_ifnull hx hb dX2_flourOfAll_27 ?_
        refine lv_iload_n hx hb dX2_flourOfAll_30 rfl (lv_at hl 2 rfl) ?_
        refine lv_aload hx hb dX2_flourOfAll_31 (lv_at hl 0 rfl) ?_
        refine va_get (D := D) (ci := 1) (v := .int (st i 0)) (C := RX1) (T := TX1) (N := 3) hx hb hts hinX1 hown hK.1 hP (4 + i) (tw_st hi) rfl 0 (by decide) (hts (.fieldLink RX2 117 "LoafMarks$Store" "flour" "I") (List.mem_of_getElem? (i := 2) rfl)) (fun _ h9 => h9) rfl dX2_flourOfAll_33 ?_
        refine lv_iadd hx hb dX2_flourOfAll_36 ?_
        refine lv_istore_n (lv' := [(1, .int (sv + (st i 0))), (5, .ref (ad (4 + i))), (0, .ref (ad 0)), (2, .ref (ad 2)), (3, .int 4), (4, .int (nI i))]) hx hb dX2_flourOfAll_37 rfl hl (by decide) rfl (fun ls hl => ?_)
        refine lv_iinc (v := (nI (i + 1))) (lv' := [(4, .int (nI (i + 1))), (1, .int (sv + (st i 0))), (5, .ref (ad (4 + i))), (0, .ref (ad 0)), (2, .ref (ad 2)), (3, .int 4)]) hx hb dX2_flourOfAll_38 hl (k := 5) rfl ((nI_1 i)) (by decide) rfl (fun ls hl => ?_)
        refine lv_goto (tgt := 13) hx hb dX2_flourOfAll_41 (by decide) ?_
        exact ih (i + 1) (sv + (st i 0)) _ _ _ (by omega) (by rw [min_s hi, hinv, min_l hi]; rfl) hP hD hS (lv_sub hl [3, 1, 4, 5, 0] rfl)
      · refine W.eq (g2 := F0 m 23 ls [.null]) (by rw [rS_ge hi]) ?_
        refine lv_astoreN (lv' := [(5, .null), (0, .ref (ad 0)), (1, .int sv), (2, .ref (ad 2)), (3, .int 4), (4, .int (nI i))]) hx hb dX2_flourOfAll_23 hl (by decide) rfl (fun ls hl => ?_)
        refine lv_aloadN hx hb dX2_flourOfAll_25 (lv_at hl 0 rfl) ?_
        refine lv_ifnullN (tgt := 38) hx hb dX2_flourOfAll_27 (by decide) ?_
        refine lv_iinc (v := (nI (i + 1))) (lv' := [(4, .int (nI (i + 1))), (5, .null), (0, .ref (ad 0)), (1, .int sv), (2, .ref (ad 2)), (3, .int 4)]) hx hb dX2_flourOfAll_38 hl (k := 5) rfl ((nI_1 i)) (by decide) rfl (fun ls hl => ?_)
        refine lv_goto (tgt := 13) hx hb dX2_flourOfAll_41 (by decide) ?_
        exact ih (i + 1) sv _ _ _ (by omega) (by rw [min_g hi]; exact hinv) hP hD hS (lv_sub hl [2, 3, 4, 5, 0] rfl)
  exact loop 4 0 0 _ _ _ (by omega) (by rw [Nat.zero_min]; rfl) hP hD hS (lv_sub hl [4, 3, 2, 1, 0] rfl)

set_option maxHeartbeats 4000000 in
set_option maxRecDepth 100000 in
/-- weevilsOfAll -/
theorem c_X2_weevilsOfAll (l : Launch) (D : va_G) (cy : Nat → ClassId) (ad : Nat → Nat) (nS nB : Nat) (st bk : Nat → Iu) (gate nu : Iu)  (hcap : nS ≤ 4) : xM l D cy yX2_weevilsOfAll wsX2_weevilsOfAll ({ frames := 0, cells := 0, slots := 0, locals := 0 } : Room) [.ref (ad 0)] (tw cy ad nS nB st bk gate nu) (fun _ : Unit => some (.int (sm (fun i => st i 1) nS))) (fun _ => True) (fun _ => tw cy ad nS nB st bk gate nu) := by
  refine xM.of cX2_weevilsOfAll 6 (some .int) RX2 (by decide +kernel) rfl rfl (Nat.le_of_ble_eq_true rfl) ?_
  intro p e s m below meth c A ls hx hb hr hts hown hlocks hml hin hK hA hP hD hS hl
  have hl : lv_has ls 6 [(0, .ref (ad 0))] := hl
  have hinX1 : ∀ w ∈ wsX10, w ∈ wsX2_weevilsOfAll := fun _ h => List.mem_cons_of_mem _ (List.mem_append_right _ h)
  have hinX2 : ∀ w ∈ wsX20, w ∈ wsX2_weevilsOfAll := fun _ h => List.mem_cons_of_mem _ (List.mem_append_left _ (List.mem_append_right _ h))
  refine lv_iconst (v := 0) hx hb dX2_weevilsOfAll_0 (by decide) ?_
  refine lv_istore_n (lv' := [(1, .int 0), (0, .ref (ad 0))]) hx hb dX2_weevilsOfAll_1 rfl hl (by decide) rfl (fun ls hl => ?_)
  refine lv_aload_n hx hb dX2_weevilsOfAll_2 rfl (lv_at hl 1 rfl) ?_
  refine va_get (D := D) (ci := 2) (v := .ref (ad 2)) (C := RX2) (T := TX2) (N := 9) hx hb hts hinX2 hown hK.1 hP 0 rfl rfl 1 (by decide) (hts (.fieldLink RX2 17 "LoafMarks$Town" "stores" "[LLoafMarks$Store;") (List.mem_of_getElem? (i := 1) rfl)) (fun _ h9 => h9) rfl dX2_weevilsOfAll_3 ?_
  refine lv_astore_n (lv' := [(2, .ref (ad 2)), (1, .int 0), (0, .ref (ad 0))]) hx hb dX2_weevilsOfAll_6 rfl hl (by decide) rfl (fun ls hl => ?_)
  refine lv_aload_n hx hb dX2_weevilsOfAll_7 rfl (lv_at hl 0 rfl) ?_
  refine va_alen hx hb hK.1 hP 2 1 rfl rfl (v := 4) rfl dX2_weevilsOfAll_8 ?_
  refine lv_istore_n (lv' := [(3, .int 4), (2, .ref (ad 2)), (1, .int 0), (0, .ref (ad 0))]) hx hb dX2_weevilsOfAll_9 rfl hl (by decide) rfl (fun ls hl => ?_)
  refine lv_iconst (v := 0) hx hb dX2_weevilsOfAll_10 (by decide) ?_
  refine lv_istore (lv' := [(4, .int 0), (3, .int 4), (2, .ref (ad 2)), (1, .int 0), (0, .ref (ad 0))]) hx hb dX2_weevilsOfAll_11 hl (by decide) rfl (fun ls hl => ?_)
  have loop : ∀ (n i : Nat) (sv : Int32) (H : Heap) (locs : List Loc) (ls : Array Slot), i + n = 4 → (sv = sm (fun i => st i 1) (min i nS)) → va_P D vwCl (tw cy ad nS nB st bk gate nu) H → va_D A (tw cy ad nS nB st bk gate nu) → va_S A s.heap H locs → lv_has ls 6 [(0, .ref (ad 0)), (1, .int sv), (2, .ref (ad 2)), (3, .int 4), (4, .int (nI i))] → W p l e ({ frames := 0, cells := 0, slots := 0, locals := 0 } : Room) s m ([.ref (ad 0)] : List Value).toArray below meth c H locs 0 0 (MQ below (xQ D A (fun _ : Unit => some (.int (sm (fun i => st i 1) nS))) (fun _ => True) (fun _ => tw cy ad nS nB st bk gate nu)) ([.ref (ad 0)] : List Value).toArray s 0 0 A) (F0 m 13 ls []) := by
    intro n
    induction n with
    | zero =>
      intro i sv H locs ls hns hinv hP hD hS hl
      have hii : i = 4 := by omega
      refine lv_iload hx hb dX2_weevilsOfAll_13 (lv_at hl 4 rfl) ?_
      refine lv_iload_n hx hb dX2_weevilsOfAll_15 rfl (lv_at hl 3 rfl) ?_
      refine lv_icmp_ge (tgt := 44) hx hb dX2_weevilsOfAll_16 (by decide) (fun _ => ?_) (fun h => absurd (by rw [hii]; exact Int32.le_refl _) h)
      refine lv_iload_n hx hb dX2_weevilsOfAll_44 rfl (lv_at hl 1 rfl) ?_
      exact xri () hx hb hr hlocks hS (Nat.le_of_ble_eq_true rfl) (Nat.le_of_ble_eq_true rfl) dX2_weevilsOfAll_45 hP hD (by show some (Value.int (sm (fun i => st i 1) nS)) = some (Value.int sv); rw [hinv, hii, Nat.min_eq_right hcap]) trivial
    | succ n ih =>
      intro i sv H locs ls hns hinv hP hD hS hl
      have hlt : i < 4 := by omega
      refine lv_iload hx hb dX2_weevilsOfAll_13 (lv_at hl 4 rfl) ?_
      refine lv_iload_n hx hb dX2_weevilsOfAll_15 rfl (lv_at hl 3 rfl) ?_
      refine lv_icmp_ge (tgt := 44) hx hb dX2_weevilsOfAll_16 (by decide) (fun h => absurd h (nI_ge (b := 4) hlt (by omega))) (fun _ => ?_)
      refine lv_aload_n hx hb dX2_weevilsOfAll_19 rfl (lv_at hl 2 rfl) ?_
      refine lv_iload hx hb dX2_weevilsOfAll_20 (lv_at hl 4 rfl) ?_
      refine xaldq hx hb hK hP 2 1 rfl rfl i rfl (by omega) (by decide) dX2_weevilsOfAll_22 ?_
      rcases Nat.lt_or_ge i nS with hi | hi
      · refine W.eq (g2 := F0 m 23 ls [.ref (ad (4 + i))]) (by rw [rS_lt hi]) ?_
        refine lv_astore (lv' := [(5, .ref (ad (4 + i))), (0, .ref (ad 0)), (1, .int sv), (2, .ref (ad 2)), (3, .int 4), (4, .int (nI i))]) hx hb dX2_weevilsOfAll_23 hl (by decide) rfl (fun ls hl => ?_)
        refine lv_aload hx hb dX2_weevilsOfAll_25 (lv_at hl 0 rfl) ?_
        refine lv_ifnull hx hb dX2_weevilsOfAll_27 ?_
        refine lv_iload_n hx hb dX2_weevilsOfAll_30 rfl (lv_at hl 2 rfl) ?_
        refine lv_aload hx hb dX2_weevilsOfAll_31 (lv_at hl 0 rfl) ?_
        refine va_get (D := D) (ci := 1) (v := .int (st i 1)) (C := RX1) (T := TX1) (N := 3) hx hb hts hinX1 hown hK.1 hP (4 + i) (tw_st hi) rfl 1 (by decide) (hts (.fieldLink RX2 149 "LoafMarks$Store" "weevils" "I") (List.mem_of_getElem? (i := 2) rfl)) (fun _ h9 => h9) rfl dX2_weevilsOfAll_33 ?_
        refine lv_iadd hx hb dX2_weevilsOfAll_36 ?_
        refine lv_istore_n (lv' := [(1, .int (sv + (st i 1))), (5, .ref (ad (4 + i))), (0, .ref (ad 0)), (2, .ref (ad 2)), (3, .int 4), (4, .int (nI i))]) hx hb dX2_weevilsOfAll_37 rfl hl (by decide) rfl (fun ls hl => ?_)
        refine lv_iinc (v := (nI (i + 1))) (lv' := [(4, .int (nI (i + 1))), (1, .int (sv + (st i 1))), (5, .ref (ad (4 + i))), (0, .ref (ad 0)), (2, .ref (ad 2)), (3, .int 4)]) hx hb dX2_weevilsOfAll_38 hl (k := 5) rfl ((nI_1 i)) (by decide) rfl (fun ls hl => ?_)
        refine lv_goto (tgt := 13) hx hb dX2_weevilsOfAll_41 (by decide) ?_
        exact ih (i + 1) (sv + (st i 1)) _ _ _ (by omega) (by rw [min_s hi, hinv, min_l hi]; rfl) hP hD hS (lv_sub hl [3, 1, 4, 5, 0] rfl)
      · refine W.eq (g2 := F0 m 23 ls [.null]) (by rw [rS_ge hi]) ?_
        refine lv_astoreN (lv' := [(5, .null), (0, .ref (ad 0)), (1, .int sv), (2, .ref (ad 2)), (3, .int 4), (4, .int (nI i))]) hx hb dX2_weevilsOfAll_23 hl (by decide) rfl (fun ls hl => ?_)
        refine lv_aloadN hx hb dX2_weevilsOfAll_25 (lv_at hl 0 rfl) ?_
        refine lv_ifnullN (tgt := 38) hx hb dX2_weevilsOfAll_27 (by decide) ?_
        refine lv_iinc (v := (nI (i + 1))) (lv' := [(4, .int (nI (i + 1))), (5, .null), (0, .ref (ad 0)), (1, .int sv), (2, .ref (ad 2)), (3, .int 4)]) hx hb dX2_weevilsOfAll_38 hl (k := 5) rfl ((nI_1 i)) (by decide) rfl (fun ls hl => ?_)
        refine lv_goto (tgt := 13) hx hb dX2_weevilsOfAll_41 (by decide) ?_
        exact ih (i + 1) sv _ _ _ (by omega) (by rw [min_g hi]; exact hinv) hP hD hS (lv_sub hl [2, 3, 4, 5, 0] rfl)
  exact loop 4 0 0 _ _ _ (by omega) (by rw [Nat.zero_min]; rfl) hP hD hS (lv_sub hl [4, 3, 2, 1, 0] rfl)

set_option maxHeartbeats 4000000 in
set_option maxRecDepth 100000 in
/-- loavesOfAll -/
theorem c_X2_loavesOfAll (l : Launch) (D : va_G) (cy : Nat → ClassId) (ad : Nat → Nat) (nS nB : Nat) (st bk : Nat → Iu) (gate nu : Iu)  (hcap : nB ≤ 6) : xM l D cy yX2_loavesOfAll wsX2_loavesOfAll ({ frames := 0, cells := 0, slots := 0, locals := 0 } : Room) [.ref (ad 0)] (tw cy ad nS nB st bk gate nu) (fun _ : Unit => some (.int (sm (fun i => bk i 5) nB))) (fun _ => True) (fun _ => tw cy ad nS nB st bk gate nu) := by
  refine xM.of cX2_loavesOfAll 6 (some .int) RX2 (by decide +kernel) rfl rfl (Nat.le_of_ble_eq_true rfl) ?_
  intro p e s m below meth c A ls hx hb hr hts hown hlocks hml hin hK hA hP hD hS hl
  have hl : lv_has ls 6 [(0, .ref (ad 0))] := hl
  have hinX0 : ∀ w ∈ wsX00, w ∈ wsX2_loavesOfAll := fun _ h => List.mem_cons_of_mem _ (List.mem_append_right _ h)
  have hinX2 : ∀ w ∈ wsX20, w ∈ wsX2_loavesOfAll := fun _ h => List.mem_cons_of_mem _ (List.mem_append_left _ (List.mem_append_right _ h))
  refine lv_iconst (v := 0) hx hb dX2_loavesOfAll_0 (by decide) ?_
  refine lv_istore_n (lv' := [(1, .int 0), (0, .ref (ad 0))]) hx hb dX2_loavesOfAll_1 rfl hl (by decide) rfl (fun ls hl => ?_)
  refine lv_aload_n hx hb dX2_loavesOfAll_2 rfl (lv_at hl 1 rfl) ?_
  refine va_get (D := D) (ci := 2) (v := .ref (ad 3)) (C := RX2) (T := TX2) (N := 9) hx hb hts hinX2 hown hK.1 hP 0 rfl rfl 2 (by decide) (hts (.fieldLink RX2 23 "LoafMarks$Town" "bakers" "[LLoafMarks$Baker;") (List.mem_of_getElem? (i := 1) rfl)) (fun _ h9 => h9) rfl dX2_loavesOfAll_3 ?_
  refine lv_astore_n (lv' := [(2, .ref (ad 3)), (1, .int 0), (0, .ref (ad 0))]) hx hb dX2_loavesOfAll_6 rfl hl (by decide) rfl (fun ls hl => ?_)
  refine lv_aload_n hx hb dX2_loavesOfAll_7 rfl (lv_at hl 0 rfl) ?_
  refine va_alen hx hb hK.1 hP 3 2 rfl rfl (v := 6) rfl dX2_loavesOfAll_8 ?_
  refine lv_istore_n (lv' := [(3, .int 6), (2, .ref (ad 3)), (1, .int 0), (0, .ref (ad 0))]) hx hb dX2_loavesOfAll_9 rfl hl (by decide) rfl (fun ls hl => ?_)
  refine lv_iconst (v := 0) hx hb dX2_loavesOfAll_10 (by decide) ?_
  refine lv_istore (lv' := [(4, .int 0), (3, .int 6), (2, .ref (ad 3)), (1, .int 0), (0, .ref (ad 0))]) hx hb dX2_loavesOfAll_11 hl (by decide) rfl (fun ls hl => ?_)
  have loop : ∀ (n i : Nat) (sv : Int32) (H : Heap) (locs : List Loc) (ls : Array Slot), i + n = 6 → (sv = sm (fun i => bk i 5) (min i nB)) → va_P D vwCl (tw cy ad nS nB st bk gate nu) H → va_D A (tw cy ad nS nB st bk gate nu) → va_S A s.heap H locs → lv_has ls 6 [(0, .ref (ad 0)), (1, .int sv), (2, .ref (ad 3)), (3, .int 6), (4, .int (nI i))] → W p l e ({ frames := 0, cells := 0, slots := 0, locals := 0 } : Room) s m ([.ref (ad 0)] : List Value).toArray below meth c H locs 0 0 (MQ below (xQ D A (fun _ : Unit => some (.int (sm (fun i => bk i 5) nB))) (fun _ => True) (fun _ => tw cy ad nS nB st bk gate nu)) ([.ref (ad 0)] : List Value).toArray s 0 0 A) (F0 m 13 ls []) := by
    intro n
    induction n with
    | zero =>
      intro i sv H locs ls hns hinv hP hD hS hl
      have hii : i = 6 := by omega
      refine lv_iload hx hb dX2_loavesOfAll_13 (lv_at hl 4 rfl) ?_
      refine lv_iload_n hx hb dX2_loavesOfAll_15 rfl (lv_at hl 3 rfl) ?_
      refine lv_icmp_ge (tgt := 44) hx hb dX2_loavesOfAll_16 (by decide) (fun _ => ?_) (fun h => absurd (by rw [hii]; exact Int32.le_refl _) h)
      refine lv_iload_n hx hb dX2_loavesOfAll_44 rfl (lv_at hl 1 rfl) ?_
      exact xri () hx hb hr hlocks hS (Nat.le_of_ble_eq_true rfl) (Nat.le_of_ble_eq_true rfl) dX2_loavesOfAll_45 hP hD (by show some (Value.int (sm (fun i => bk i 5) nB)) = some (Value.int sv); rw [hinv, hii, Nat.min_eq_right hcap]) trivial
    | succ n ih =>
      intro i sv H locs ls hns hinv hP hD hS hl
      have hlt : i < 6 := by omega
      refine lv_iload hx hb dX2_loavesOfAll_13 (lv_at hl 4 rfl) ?_
      refine lv_iload_n hx hb dX2_loavesOfAll_15 rfl (lv_at hl 3 rfl) ?_
      refine lv_icmp_ge (tgt := 44) hx hb dX2_loavesOfAll_16 (by decide) (fun h => absurd h (nI_ge (b := 6) hlt (by omega))) (fun _ => ?_)
      refine lv_aload_n hx hb dX2_loavesOfAll_19 rfl (lv_at hl 2 rfl) ?_
      refine lv_iload hx hb dX2_loavesOfAll_20 (lv_at hl 4 rfl) ?_
      refine xaldq hx hb hK hP 3 2 rfl rfl i rfl (by omega) (by decide) dX2_loavesOfAll_22 ?_
      rcases Nat.lt_or_ge i nB with hi | hi
      · refine W.eq (g2 := F0 m 23 ls [.ref (ad (8 + i))]) (by rw [rB_lt hi]) ?_
        refine lv_astore (lv' := [(5, .ref (ad (8 + i))), (0, .ref (ad 0)), (1, .int sv), (2, .ref (ad 3)), (3, .int 6), (4, .int (nI i))]) hx hb dX2_loavesOfAll_23 hl (by decide) rfl (fun ls hl => ?_)
        refine lv_aload hx hb dX2_loavesOfAll_25 (lv_at hl 0 rfl) ?_
        refine lv_ifnull hx hb dX2_loavesOfAll_27 ?_
        refine lv_iload_n hx hb dX2_loavesOfAll_30 rfl (lv_at hl 2 rfl) ?_
        refine lv_aload hx hb dX2_loavesOfAll_31 (lv_at hl 0 rfl) ?_
        refine va_get (D := D) (ci := 0) (v := .int (bk i 5)) (C := RX0) (T := TX0) (N := 8) hx hb hts hinX0 hown hK.1 hP (4 + nS + i) (tw_bk hi) rfl 5 (by decide) (hts (.fieldLink RX2 152 "LoafMarks$Baker" "shelf" "I") (List.mem_of_getElem? (i := 2) rfl)) (fun _ h9 => h9) rfl dX2_loavesOfAll_33 ?_
        refine lv_iadd hx hb dX2_loavesOfAll_36 ?_
        refine lv_istore_n (lv' := [(1, .int (sv + (bk i 5))), (5, .ref (ad (8 + i))), (0, .ref (ad 0)), (2, .ref (ad 3)), (3, .int 6), (4, .int (nI i))]) hx hb dX2_loavesOfAll_37 rfl hl (by decide) rfl (fun ls hl => ?_)
        refine lv_iinc (v := (nI (i + 1))) (lv' := [(4, .int (nI (i + 1))), (1, .int (sv + (bk i 5))), (5, .ref (ad (8 + i))), (0, .ref (ad 0)), (2, .ref (ad 3)), (3, .int 6)]) hx hb dX2_loavesOfAll_38 hl (k := 5) rfl ((nI_1 i)) (by decide) rfl (fun ls hl => ?_)
        refine lv_goto (tgt := 13) hx hb dX2_loavesOfAll_41 (by decide) ?_
        exact ih (i + 1) (sv + (bk i 5)) _ _ _ (by omega) (by rw [min_s hi, hinv, min_l hi]; rfl) hP hD hS (lv_sub hl [3, 1, 4, 5, 0] rfl)
      · refine W.eq (g2 := F0 m 23 ls [.null]) (by rw [rB_ge hi]) ?_
        refine lv_astoreN (lv' := [(5, .null), (0, .ref (ad 0)), (1, .int sv), (2, .ref (ad 3)), (3, .int 6), (4, .int (nI i))]) hx hb dX2_loavesOfAll_23 hl (by decide) rfl (fun ls hl => ?_)
        refine lv_aloadN hx hb dX2_loavesOfAll_25 (lv_at hl 0 rfl) ?_
        refine lv_ifnullN (tgt := 38) hx hb dX2_loavesOfAll_27 (by decide) ?_
        refine lv_iinc (v := (nI (i + 1))) (lv' := [(4, .int (nI (i + 1))), (5, .null), (0, .ref (ad 0)), (1, .int sv), (2, .ref (ad 3)), (3, .int 6)]) hx hb dX2_loavesOfAll_38 hl (k := 5) rfl ((nI_1 i)) (by decide) rfl (fun ls hl => ?_)
        refine lv_goto (tgt := 13) hx hb dX2_loavesOfAll_41 (by decide) ?_
        exact ih (i + 1) sv _ _ _ (by omega) (by rw [min_g hi]; exact hinv) hP hD hS (lv_sub hl [2, 3, 4, 5, 0] rfl)
  exact loop 6 0 0 _ _ _ (by omega) (by rw [Nat.zero_min]; rfl) hP hD hS (lv_sub hl [4, 3, 2, 1, 0] rfl)

set_option maxHeartbeats 4000000 in
set_option maxRecDepth 100000 in
/-- barredBakers -/
theorem c_X2_barredBakers (l : Launch) (D : va_G) (cy : Nat → ClassId) (ad : Nat → Nat) (nS nB : Nat) (st bk : Nat → Iu) (gate nu : Iu)  (hcap : nB ≤ 6) : xM l D cy yX2_barredBakers wsX2_barredBakers ({ frames := 0, cells := 0, slots := 0, locals := 0 } : Room) [.ref (ad 0)] (tw cy ad nS nB st bk gate nu) (fun _ : Unit => some (.int (sm (fun i => (if bk i 7 = 0 then 0 else 1)) nB))) (fun _ => True) (fun _ => tw cy ad nS nB st bk gate nu) := by
  refine xM.of cX2_barredBakers 6 (some .int) RX2 (by decide +kernel) rfl rfl (Nat.le_of_ble_eq_true rfl) ?_
  intro p e s m below meth c A ls hx hb hr hts hown hlocks hml hin hK hA hP hD hS hl
  have hl : lv_has ls 6 [(0, .ref (ad 0))] := hl
  have hinX0 : ∀ w ∈ wsX00, w ∈ wsX2_barredBakers := fun _ h => List.mem_cons_of_mem _ (List.mem_append_right _ h)
  have hinX2 : ∀ w ∈ wsX20, w ∈ wsX2_barredBakers := fun _ h => List.mem_cons_of_mem _ (List.mem_append_left _ (List.mem_append_right _ h))
  refine lv_iconst (v := 0) hx hb dX2_barredBakers_0 (by decide) ?_
  refine lv_istore_n (lv' := [(1, .int 0), (0, .ref (ad 0))]) hx hb dX2_barredBakers_1 rfl hl (by decide) rfl (fun ls hl => ?_)
  refine lv_aload_n hx hb dX2_barredBakers_2 rfl (lv_at hl 1 rfl) ?_
  refine va_get (D := D) (ci := 2) (v := .ref (ad 3)) (C := RX2) (T := TX2) (N := 9) hx hb hts hinX2 hown hK.1 hP 0 rfl rfl 2 (by decide) (hts (.fieldLink RX2 23 "LoafMarks$Town" "bakers" "[LLoafMarks$Baker;") (List.mem_of_getElem? (i := 1) rfl)) (fun _ h9 => h9) rfl dX2_barredBakers_3 ?_
  refine lv_astore_n (lv' := [(2, .ref (ad 3)), (1, .int 0), (0, .ref (ad 0))]) hx hb dX2_barredBakers_6 rfl hl (by decide) rfl (fun ls hl => ?_)
  refine lv_aload_n hx hb dX2_barredBakers_7 rfl (lv_at hl 0 rfl) ?_
  refine va_alen hx hb hK.1 hP 3 2 rfl rfl (v := 6) rfl dX2_barredBakers_8 ?_
  refine lv_istore_n (lv' := [(3, .int 6), (2, .ref (ad 3)), (1, .int 0), (0, .ref (ad 0))]) hx hb dX2_barredBakers_9 rfl hl (by decide) rfl (fun ls hl => ?_)
  refine lv_iconst (v := 0) hx hb dX2_barredBakers_10 (by decide) ?_
  refine lv_istore (lv' := [(4, .int 0), (3, .int 6), (2, .ref (ad 3)), (1, .int 0), (0, .ref (ad 0))]) hx hb dX2_barredBakers_11 hl (by decide) rfl (fun ls hl => ?_)
  have loop : ∀ (n i : Nat) (sv : Int32) (H : Heap) (locs : List Loc) (ls : Array Slot), i + n = 6 → (sv = sm (fun i => (if bk i 7 = 0 then 0 else 1)) (min i nB)) → va_P D vwCl (tw cy ad nS nB st bk gate nu) H → va_D A (tw cy ad nS nB st bk gate nu) → va_S A s.heap H locs → lv_has ls 6 [(0, .ref (ad 0)), (1, .int sv), (2, .ref (ad 3)), (3, .int 6), (4, .int (nI i))] → W p l e ({ frames := 0, cells := 0, slots := 0, locals := 0 } : Room) s m ([.ref (ad 0)] : List Value).toArray below meth c H locs 0 0 (MQ below (xQ D A (fun _ : Unit => some (.int (sm (fun i => (if bk i 7 = 0 then 0 else 1)) nB))) (fun _ => True) (fun _ => tw cy ad nS nB st bk gate nu)) ([.ref (ad 0)] : List Value).toArray s 0 0 A) (F0 m 13 ls []) := by
    intro n
    induction n with
    | zero =>
      intro i sv H locs ls hns hinv hP hD hS hl
      have hii : i = 6 := by omega
      refine lv_iload hx hb dX2_barredBakers_13 (lv_at hl 4 rfl) ?_
      refine lv_iload_n hx hb dX2_barredBakers_15 rfl (lv_at hl 3 rfl) ?_
      refine lv_icmp_ge (tgt := 47) hx hb dX2_barredBakers_16 (by decide) (fun _ => ?_) (fun h => absurd (by rw [hii]; exact Int32.le_refl _) h)
      refine lv_iload_n hx hb dX2_barredBakers_47 rfl (lv_at hl 1 rfl) ?_
      exact xri () hx hb hr hlocks hS (Nat.le_of_ble_eq_true rfl) (Nat.le_of_ble_eq_true rfl) dX2_barredBakers_48 hP hD (by show some (Value.int (sm (fun i => (if bk i 7 = 0 then 0 else 1)) nB)) = some (Value.int sv); rw [hinv, hii, Nat.min_eq_right hcap]) trivial
    | succ n ih =>
      intro i sv H locs ls hns hinv hP hD hS hl
      have hlt : i < 6 := by omega
      refine lv_iload hx hb dX2_barredBakers_13 (lv_at hl 4 rfl) ?_
      refine lv_iload_n hx hb dX2_barredBakers_15 rfl (lv_at hl 3 rfl) ?_
      refine lv_icmp_ge (tgt := 47) hx hb dX2_barredBakers_16 (by decide) (fun h => absurd h (nI_ge (b := 6) hlt (by omega))) (fun _ => ?_)
      refine lv_aload_n hx hb dX2_barredBakers_19 rfl (lv_at hl 2 rfl) ?_
      refine lv_iload hx hb dX2_barredBakers_20 (lv_at hl 4 rfl) ?_
      refine xaldq hx hb hK hP 3 2 rfl rfl i rfl (by omega) (by decide) dX2_barredBakers_22 ?_
      rcases Nat.lt_or_ge i nB with hi | hi
      · refine W.eq (g2 := F0 m 23 ls [.ref (ad (8 + i))]) (by rw [rB_lt hi]) ?_
        refine lv_astore (lv' := [(5, .ref (ad (8 + i))), (0, .ref (ad 0)), (1, .int sv), (2, .ref (ad 3)), (3, .int 6), (4, .int (nI i))]) hx hb dX2_barredBakers_23 hl (by decide) rfl (fun ls hl => ?_)
        refine lv_aload hx hb dX2_barredBakers_25 (lv_at hl 0 rfl) ?_
        refine lv_ifnull hx hb dX2_barredBakers_27 ?_
        refine lv_aload hx hb dX2_barredBakers_30 (lv_at hl 0 rfl) ?_
        refine va_get (D := D) (ci := 0) (v := .int (bk i 7)) (C := RX0) (T := TX0) (N := 8) hx hb hts hinX0 hown hK.1 hP (4 + nS + i) (tw_bk hi) rfl 7 (by decide) (hts (.fieldLink RX2 120 "LoafMarks$Baker" "barred" "Z") (List.mem_of_getElem? (i := 2) rfl)) (fun _ h9 => h9) rfl dX2_barredBakers_32 ?_
        refine lv_if_eq (tgt := 41) hx hb dX2_barredBakers_35 (by decide) (fun c35 => ?_) (fun c35 => ?_)
        · refine lv_iinc (v := (nI (i + 1))) (lv' := [(4, .int (nI (i + 1))), (5, .ref (ad (8 + i))), (0, .ref (ad 0)), (1, .int sv), (2, .ref (ad 3)), (3, .int 6)]) hx hb dX2_barredBakers_41 hl (k := 5) rfl ((nI_1 i)) (by decide) rfl (fun ls hl => ?_)
          refine lv_goto (tgt := 13) hx hb dX2_barredBakers_44 (by decide) ?_
          exact ih (i + 1) sv _ _ _ (by omega) (by rw [min_s hi, hinv, min_l hi]; show _ = sm _ i + (if _ then _ else _); rw [if_pos c35, Int32.add_zero]) hP hD hS (lv_sub hl [2, 3, 4, 5, 0] rfl)
        · refine lv_iinc (v := (sv + 1)) (lv' := [(1, .int (sv + 1)), (5, .ref (ad (8 + i))), (0, .ref (ad 0)), (2, .ref (ad 3)), (3, .int 6), (4, .int (nI i))]) hx hb dX2_barredBakers_38 hl (k := 2) rfl (rfl) (by decide) rfl (fun ls hl => ?_)
          refine lv_iinc (v := (nI (i + 1))) (lv' := [(4, .int (nI (i + 1))), (1, .int (sv + 1)), (5, .ref (ad (8 + i))), (0, .ref (ad 0)), (2, .ref (ad 3)), (3, .int 6)]) hx hb dX2_barredBakers_41 hl (k := 5) rfl ((nI_1 i)) (by decide) rfl (fun ls hl => ?_)
          refine lv_goto (tgt := 13) hx hb dX2_barredBakers_44 (by decide) ?_
          exact ih (i + 1) (sv + 1) _ _ _ (by omega) (by rw [min_s hi, hinv, min_l hi]; show _ = sm _ i + (if _ then _ else _); rw [if_neg c35]) hP hD hS (lv_sub hl [3, 1, 4, 5, 0] rfl)
      · refine W.eq (g2 := F0 m 23 ls [.null]) (by rw [rB_ge hi]) ?_
        refine lv_astoreN (lv' := [(5, .null), (0, .ref (ad 0)), (1, .int sv), (2, .ref (ad 3)), (3, .int 6), (4, .int (nI i))]) hx hb dX2_barredBakers_23 hl (by decide) rfl (fun ls hl => ?_)
        refine lv_aloadN hx hb dX2_barredBakers_25 (lv_at hl 0 rfl) ?_
        refine lv_ifnullN (tgt := 41) hx hb dX2_barredBakers_27 (by decide) ?_
        refine lv_iinc (v := (nI (i + 1))) (lv' := [(4, .int (nI (i + 1))), (5, .null), (0, .ref (ad 0)), (1, .int sv), (2, .ref (ad 3)), (3, .int 6)]) hx hb dX2_barredBakers_41 hl (k := 5) rfl ((nI_1 i)) (by decide) rfl (fun ls hl => ?_)
        refine lv_goto (tgt := 13) hx hb dX2_barredBakers_44 (by decide) ?_
        exact ih (i + 1) sv _ _ _ (by omega) (by rw [min_g hi]; exact hinv) hP hD hS (lv_sub hl [2, 3, 4, 5, 0] rfl)
  exact loop 6 0 0 _ _ _ (by omega) (by rw [Nat.zero_min]; rfl) hP hD hS (lv_sub hl [4, 3, 2, 1, 0] rfl)

set_option maxHeartbeats 4000000 in
set_option maxRecDepth 100000 in
/-- bakersOfStore -/
theorem c_X2_bakersOfStore (l : Launch) (D : va_G) (cy : Nat → ClassId) (ad : Nat → Nat) (nS nB : Nat) (st bk : Nat → Iu) (gate nu : Iu) (p0 : Int32) (hcap : nB ≤ 6) : xM l D cy yX2_bakersOfStore wsX2_bakersOfStore ({ frames := 0, cells := 0, slots := 0, locals := 0 } : Room) [.ref (ad 0), .int p0] (tw cy ad nS nB st bk gate nu) (fun _ : Unit => some (.int (sm (fun i => (if bk i 0 = p0 then 1 else 0)) nB))) (fun _ => True) (fun _ => tw cy ad nS nB st bk gate nu) := by
  refine xM.of cX2_bakersOfStore 7 (some .int) RX2 (by decide +kernel) rfl rfl (Nat.le_of_ble_eq_true rfl) ?_
  intro p e s m below meth c A ls hx hb hr hts hown hlocks hml hin hK hA hP hD hS hl
  have hl : lv_has ls 7 [(0, .ref (ad 0)), (1, .int p0)] := hl
  have hinX0 : ∀ w ∈ wsX00, w ∈ wsX2_bakersOfStore := fun _ h => List.mem_cons_of_mem _ (List.mem_append_right _ h)
  have hinX2 : ∀ w ∈ wsX20, w ∈ wsX2_bakersOfStore := fun _ h => List.mem_cons_of_mem _ (List.mem_append_left _ (List.mem_append_right _ h))
  refine lv_iconst (v := 0) hx hb dX2_bakersOfStore_0 (by decide) ?_
  refine lv_istore_n (lv' := [(2, .int 0), (0, .ref (ad 0)), (1, .int p0)]) hx hb dX2_bakersOfStore_1 rfl hl (by decide) rfl (fun ls hl => ?_)
  refine lv_aload_n hx hb dX2_bakersOfStore_2 rfl (lv_at hl 1 rfl) ?_
  refine va_get (D := D) (ci := 2) (v := .ref (ad 3)) (C := RX2) (T := TX2) (N := 9) hx hb hts hinX2 hown hK.1 hP 0 rfl rfl 2 (by decide) (hts (.fieldLink RX2 23 "LoafMarks$Town" "bakers" "[LLoafMarks$Baker;") (List.mem_of_getElem? (i := 1) rfl)) (fun _ h9 => h9) rfl dX2_bakersOfStore_3 ?_
  refine lv_astore_n (lv' := [(3, .ref (ad 3)), (2, .int 0), (0, .ref (ad 0)), (1, .int p0)]) hx hb dX2_bakersOfStore_6 rfl hl (by decide) rfl (fun ls hl => ?_)
  refine lv_aload_n hx hb dX2_bakersOfStore_7 rfl (lv_at hl 0 rfl) ?_
  refine va_alen hx hb hK.1 hP 3 2 rfl rfl (v := 6) rfl dX2_bakersOfStore_8 ?_
  refine lv_istore (lv' := [(4, .int 6), (3, .ref (ad 3)), (2, .int 0), (0, .ref (ad 0)), (1, .int p0)]) hx hb dX2_bakersOfStore_9 hl (by decide) rfl (fun ls hl => ?_)
  refine lv_iconst (v := 0) hx hb dX2_bakersOfStore_11 (by decide) ?_
  refine lv_istore (lv' := [(5, .int 0), (4, .int 6), (3, .ref (ad 3)), (2, .int 0), (0, .ref (ad 0)), (1, .int p0)]) hx hb dX2_bakersOfStore_12 hl (by decide) rfl (fun ls hl => ?_)
  have loop : ∀ (n i : Nat) (sv : Int32) (H : Heap) (locs : List Loc) (ls : Array Slot), i + n = 6 → (sv = sm (fun i => (if bk i 0 = p0 then 1 else 0)) (min i nB)) → va_P D vwCl (tw cy ad nS nB st bk gate nu) H → va_D A (tw cy ad nS nB st bk gate nu) → va_S A s.heap H locs → lv_has ls 7 [(0, .ref (ad 0)), (1, .int p0), (2, .int sv), (3, .ref (ad 3)), (4, .int 6), (5, .int (nI i))] → W p l e ({ frames := 0, cells := 0, slots := 0, locals := 0 } : Room) s m ([.ref (ad 0), .int p0] : List Value).toArray below meth c H locs 0 0 (MQ below (xQ D A (fun _ : Unit => some (.int (sm (fun i => (if bk i 0 = p0 then 1 else 0)) nB))) (fun _ => True) (fun _ => tw cy ad nS nB st bk gate nu)) ([.ref (ad 0), .int p0] : List Value).toArray s 0 0 A) (F0 m 14 ls []) := by
    intro n
    induction n with
    | zero =>
      intro i sv H locs ls hns hinv hP hD hS hl
      have hii : i = 6 := by omega
      refine lv_iload hx hb dX2_bakersOfStore_14 (lv_at hl 5 rfl) ?_
      refine lv_iload hx hb dX2_bakersOfStore_16 (lv_at hl 4 rfl) ?_
      refine lv_icmp_ge (tgt := 50) hx hb dX2_bakersOfStore_18 (by decide) (fun _ => ?_) (fun h => absurd (by rw [hii]; exact Int32.le_refl _) h)
      refine lv_iload_n hx hb dX2_bakersOfStore_50 rfl (lv_at hl 2 rfl) ?_
      exact xri () hx hb hr hlocks hS (Nat.le_of_ble_eq_true rfl) (Nat.le_of_ble_eq_true rfl) dX2_bakersOfStore_51 hP hD (by show some (Value.int (sm (fun i => (if bk i 0 = p0 then 1 else 0)) nB)) = some (Value.int sv); rw [hinv, hii, Nat.min_eq_right hcap]) trivial
    | succ n ih =>
      intro i sv H locs ls hns hinv hP hD hS hl
      have hlt : i < 6 := by omega
      refine lv_iload hx hb dX2_bakersOfStore_14 (lv_at hl 5 rfl) ?_
      refine lv_iload hx hb dX2_bakersOfStore_16 (lv_at hl 4 rfl) ?_
      refine lv_icmp_ge (tgt := 50) hx hb dX2_bakersOfStore_18 (by decide) (fun h => absurd h (nI_ge (b := 6) hlt (by omega))) (fun _ => ?_)
      refine lv_aload_n hx hb dX2_bakersOfStore_21 rfl (lv_at hl 3 rfl) ?_
      refine lv_iload hx hb dX2_bakersOfStore_22 (lv_at hl 5 rfl) ?_
      refine xaldq hx hb hK hP 3 2 rfl rfl i rfl (by omega) (by decide) dX2_bakersOfStore_24 ?_
      rcases Nat.lt_or_ge i nB with hi | hi
      · refine W.eq (g2 := F0 m 25 ls [.ref (ad (8 + i))]) (by rw [rB_lt hi]) ?_
        refine lv_astore (lv' := [(6, .ref (ad (8 + i))), (0, .ref (ad 0)), (1, .int p0), (2, .int sv), (3, .ref (ad 3)), (4, .int 6), (5, .int (nI i))]) hx hb dX2_bakersOfStore_25 hl (by decide) rfl (fun ls hl => ?_)
        refine lv_aload hx hb dX2_bakersOfStore_27 (lv_at hl 0 rfl) ?_
        refine lv_ifnull hx hb dX2_bakersOfStore_29 ?_
        refine lv_aload hx hb dX2_bakersOfStore_32 (lv_at hl 0 rfl) ?_
        refine va_get (D := D) (ci := 0) (v := .int (bk i 0)) (C := RX0) (T := TX0) (N := 8) hx hb hts hinX0 hown hK.1 hP (4 + nS + i) (tw_bk hi) rfl 0 (by decide) (hts (.fieldLink RX2 124 "LoafMarks$Baker" "storeNumber" "I") (List.mem_of_getElem? (i := 2) rfl)) (fun _ h9 => h9) rfl dX2_bakersOfStore_34 ?_
        refine lv_iload_n hx hb dX2_bakersOfStore_37 rfl (lv_at hl 2 rfl) ?_
        refine lv_icmp_ne (tgt := 44) hx hb dX2_bakersOfStore_38 (by decide) (fun c38 => ?_) (fun c38 => ?_)
        · refine lv_iinc (v := (nI (i + 1))) (lv' := [(5, .int (nI (i + 1))), (6, .ref (ad (8 + i))), (0, .ref (ad 0)), (1, .int p0), (2, .int sv), (3, .ref (ad 3)), (4, .int 6)]) hx hb dX2_bakersOfStore_44 hl (k := 6) rfl ((nI_1 i)) (by decide) rfl (fun ls hl => ?_)
          refine lv_goto (tgt := 14) hx hb dX2_bakersOfStore_47 (by decide) ?_
          exact ih (i + 1) sv _ _ _ (by omega) (by rw [min_s hi, hinv, min_l hi]; show _ = sm _ i + (if _ then _ else _); rw [if_neg c38, Int32.add_zero]) hP hD hS (lv_sub hl [2, 3, 4, 5, 6, 0] rfl)
        · refine lv_iinc (v := (sv + 1)) (lv' := [(2, .int (sv + 1)), (6, .ref (ad (8 + i))), (0, .ref (ad 0)), (1, .int p0), (3, .ref (ad 3)), (4, .int 6), (5, .int (nI i))]) hx hb dX2_bakersOfStore_41 hl (k := 3) rfl (rfl) (by decide) rfl (fun ls hl => ?_)
          refine lv_iinc (v := (nI (i + 1))) (lv' := [(5, .int (nI (i + 1))), (2, .int (sv + 1)), (6, .ref (ad (8 + i))), (0, .ref (ad 0)), (1, .int p0), (3, .ref (ad 3)), (4, .int 6)]) hx hb dX2_bakersOfStore_44 hl (k := 6) rfl ((nI_1 i)) (by decide) rfl (fun ls hl => ?_)
          refine lv_goto (tgt := 14) hx hb dX2_bakersOfStore_47 (by decide) ?_
          exact ih (i + 1) (sv + 1) _ _ _ (by omega) (by rw [min_s hi, hinv, min_l hi]; show _ = sm _ i + (if _ then _ else _); rw [if_pos c38]) hP hD hS (lv_sub hl [3, 4, 1, 5, 6, 0] rfl)
      · refine W.eq (g2 := F0 m 25 ls [.null]) (by rw [rB_ge hi]) ?_
        refine lv_astoreN (lv' := [(6, .null), (0, .ref (ad 0)), (1, .int p0), (2, .int sv), (3, .ref (ad 3)), (4, .int 6), (5, .int (nI i))]) hx hb dX2_bakersOfStore_25 hl (by decide) rfl (fun ls hl => ?_)
        refine lv_aloadN hx hb dX2_bakersOfStore_27 (lv_at hl 0 rfl) ?_
        refine lv_ifnullN (tgt := 44) hx hb dX2_bakersOfStore_29 (by decide) ?_
        refine lv_iinc (v := (nI (i + 1))) (lv' := [(5, .int (nI (i + 1))), (6, .null), (0, .ref (ad 0)), (1, .int p0), (2, .int sv), (3, .ref (ad 3)), (4, .int 6)]) hx hb dX2_bakersOfStore_44 hl (k := 6) rfl ((nI_1 i)) (by decide) rfl (fun ls hl => ?_)
        refine lv_goto (tgt := 14) hx hb dX2_bakersOfStore_47 (by decide) ?_
        exact ih (i + 1) sv _ _ _ (by omega) (by rw [min_g hi]; exact hinv) hP hD hS (lv_sub hl [2, 3, 4, 5, 6, 0] rfl)
  exact loop 6 0 0 _ _ _ (by omega) (by rw [Nat.zero_min]; rfl) hP hD hS (lv_sub hl [4, 5, 3, 2, 1, 0] rfl)

set_option maxHeartbeats 4000000 in
set_option maxRecDepth 100000 in
/-- bakerWithMark -/
theorem c_X2_bakerWithMark (l : Launch) (D : va_G) (cy : Nat → ClassId) (ad : Nat → Nat) (nS nB : Nat) (st bk : Nat → Iu) (gate nu : Iu) (p0 : Int32) (hcap : nB ≤ 6) : xM l D cy yX2_bakerWithMark wsX2_bakerWithMark ({ frames := 0, cells := 0, slots := 0, locals := 0 } : Room) [.ref (ad 0), .int p0] (tw cy ad nS nB st bk gate nu) (fun _ : Unit => some (.int (ownF bk p0 nB 0))) (fun _ => True) (fun _ => tw cy ad nS nB st bk gate nu) := by
  refine xM.of cX2_bakerWithMark 4 (some .int) RX2 (by decide +kernel) rfl rfl (Nat.le_of_ble_eq_true rfl) ?_
  intro p e s m below meth c A ls hx hb hr hts hown hlocks hml hin hK hA hP hD hS hl
  have hl : lv_has ls 4 [(0, .ref (ad 0)), (1, .int p0)] := hl
  have hinX0 : ∀ w ∈ wsX00, w ∈ wsX2_bakerWithMark := fun _ h => List.mem_cons_of_mem _ (List.mem_append_right _ h)
  have hinX2 : ∀ w ∈ wsX20, w ∈ wsX2_bakerWithMark := fun _ h => List.mem_cons_of_mem _ (List.mem_append_left _ (List.mem_append_right _ h))
  refine lv_iconst (v := 0) hx hb dX2_bakerWithMark_0 (by decide) ?_
  refine lv_istore_n (lv' := [(2, .int 0), (0, .ref (ad 0)), (1, .int p0)]) hx hb dX2_bakerWithMark_1 rfl hl (by decide) rfl (fun ls hl => ?_)
  have loop : ∀ (n i : Nat)  (H : Heap) (locs : List Loc) (ls : Array Slot), i + n = 6 → (ownF bk p0 nB 0 = ownF bk p0 (nB - i) i) → va_P D vwCl (tw cy ad nS nB st bk gate nu) H → va_D A (tw cy ad nS nB st bk gate nu) → va_S A s.heap H locs → lv_has ls 4 [(0, .ref (ad 0)), (1, .int p0), (2, .int (nI i))] → W p l e ({ frames := 0, cells := 0, slots := 0, locals := 0 } : Room) s m ([.ref (ad 0), .int p0] : List Value).toArray below meth c H locs 0 0 (MQ below (xQ D A (fun _ : Unit => some (.int (ownF bk p0 nB 0))) (fun _ => True) (fun _ => tw cy ad nS nB st bk gate nu)) ([.ref (ad 0), .int p0] : List Value).toArray s 0 0 A) (F0 m 2 ls []) := by
    intro n
    induction n with
    | zero =>
      intro i  H locs ls hns hinv hP hD hS hl
      have hii : i = 6 := by omega
      refine lv_iload_n hx hb dX2_bakerWithMark_2 rfl (lv_at hl 2 rfl) ?_
      refine lv_aload_n hx hb dX2_bakerWithMark_3 rfl (lv_at hl 0 rfl) ?_
      refine va_get (D := D) (ci := 2) (v := .ref (ad 3)) (C := RX2) (T := TX2) (N := 9) hx hb hts hinX2 hown hK.1 hP 0 rfl rfl 2 (by decide) (hts (.fieldLink RX2 23 "LoafMarks$Town" "bakers" "[LLoafMarks$Baker;") (List.mem_of_getElem? (i := 1) rfl)) (fun _ h9 => h9) rfl dX2_bakerWithMark_4 ?_
      refine va_alen hx hb hK.1 hP 3 2 rfl rfl (v := 6) rfl dX2_bakerWithMark_7 ?_
      refine lv_icmp_ge (tgt := 38) hx hb dX2_bakerWithMark_8 (by decide) (fun _ => ?_) (fun h => absurd (by rw [hii]; exact Int32.le_refl _) h)
      refine lv_iconst (v := (-1)) hx hb dX2_bakerWithMark_38 (by decide) ?_
      exact xri () hx hb hr hlocks hS (Nat.le_of_ble_eq_true rfl) (Nat.le_of_ble_eq_true rfl) dX2_bakerWithMark_39 hP hD (by show some (Value.int (ownF bk p0 nB 0)) = _; rw [hinv, hii, Nat.sub_eq_zero_of_le hcap]; rfl) trivial
    | succ n ih =>
      intro i  H locs ls hns hinv hP hD hS hl
      have hlt : i < 6 := by omega
      refine lv_iload_n hx hb dX2_bakerWithMark_2 rfl (lv_at hl 2 rfl) ?_
      refine lv_aload_n hx hb dX2_bakerWithMark_3 rfl (lv_at hl 0 rfl) ?_
      refine va_get (D := D) (ci := 2) (v := .ref (ad 3)) (C := RX2) (T := TX2) (N := 9) hx hb hts hinX2 hown hK.1 hP 0 rfl rfl 2 (by decide) (hts (.fieldLink RX2 23 "LoafMarks$Town" "bakers" "[LLoafMarks$Baker;") (List.mem_of_getElem? (i := 1) rfl)) (fun _ h9 => h9) rfl dX2_bakerWithMark_4 ?_
      refine va_alen hx hb hK.1 hP 3 2 rfl rfl (v := 6) rfl dX2_bakerWithMark_7 ?_
      refine lv_icmp_ge (tgt := 38) hx hb dX2_bakerWithMark_8 (by decide) (fun h => absurd h (nI_ge (b := 6) hlt (by omega))) (fun _ => ?_)
      refine lv_aload_n hx hb dX2_bakerWithMark_11 rfl (lv_at hl 0 rfl) ?_
      refine va_get (D := D) (ci := 2) (v := .ref (ad 3)) (C := RX2) (T := TX2) (N := 9) hx hb hts hinX2 hown hK.1 hP 0 rfl rfl 2 (by decide) (hts (.fieldLink RX2 23 "LoafMarks$Town" "bakers" "[LLoafMarks$Baker;") (List.mem_of_getElem? (i := 1) rfl)) (fun _ h9 => h9) rfl dX2_bakerWithMark_12 ?_
      refine lv_iload_n hx hb dX2_bakerWithMark_15 rfl (lv_at hl 2 rfl) ?_
      refine xaldq hx hb hK hP 3 2 rfl rfl i rfl (by omega) (by decide) dX2_bakerWithMark_16 ?_
      rcases Nat.lt_or_ge i nB with hi | hi
      · refine W.eq (g2 := F0 m 17 ls [.ref (ad (8 + i))]) (by rw [rB_lt hi]) ?_
        refine lv_astore_n (lv' := [(3, .ref (ad (8 + i))), (0, .ref (ad 0)), (1, .int p0), (2, .int (nI i))]) hx hb dX2_bakerWithMark_17 rfl hl (by decide) rfl (fun ls hl => ?_)
        refine lv_aload_n hx hb dX2_bakerWithMark_18 rfl (lv_at hl 0 rfl) ?_
        refine lv_ifnull hx hb dX2_bakerWithMark_19 ?_
        refine lv_aload_n hx hb dX2_bakerWithMark_22 rfl (lv_at hl 0 rfl) ?_
        refine va_get (D := D) (ci := 0) (v := .int (bk i 1)) (C := RX0) (T := TX0) (N := 8) hx hb hts hinX0 hown hK.1 hP (4 + nS + i) (tw_bk hi) rfl 1 (by decide) (hts (.fieldLink RX2 78 "LoafMarks$Baker" "mark" "I") (List.mem_of_getElem? (i := 2) rfl)) (fun _ h9 => h9) rfl dX2_bakerWithMark_23 ?_
        refine lv_iload_n hx hb dX2_bakerWithMark_26 rfl (lv_at hl 2 rfl) ?_
        refine lv_icmp_ne (tgt := 32) hx hb dX2_bakerWithMark_27 (by decide) (fun c27 => ?_) (fun c27 => ?_)
        · refine lv_iinc (v := (nI (i + 1))) (lv' := [(2, .int (nI (i + 1))), (3, .ref (ad (8 + i))), (0, .ref (ad 0)), (1, .int p0)]) hx hb dX2_bakerWithMark_32 hl (k := 3) rfl ((nI_1 i)) (by decide) rfl (fun ls hl => ?_)
          refine lv_goto (tgt := 2) hx hb dX2_bakerWithMark_35 (by decide) ?_
          exact ih (i + 1)  _ _ _ (by omega) (by rw [hinv, show nB - i = (nB - (i + 1)) + 1 by omega]; show (if _ then _ else _) = _; rw [if_neg c27]) hP hD hS (lv_sub hl [2, 3, 0] rfl)
        · refine lv_iload_n hx hb dX2_bakerWithMark_30 rfl (lv_at hl 3 rfl) ?_
          exact xri () hx hb hr hlocks hS (Nat.le_of_ble_eq_true rfl) (Nat.le_of_ble_eq_true rfl) dX2_bakerWithMark_31 hP hD (by show some (Value.int (ownF bk p0 nB 0)) = _; rw [hinv, show nB - i = (nB - (i + 1)) + 1 by omega]; show some (Value.int (if _ then _ else _)) = _; rw [if_pos c27]) trivial
      · refine W.eq (g2 := F0 m 17 ls [.null]) (by rw [rB_ge hi]) ?_
        refine lv_astore_nN (lv' := [(3, .null), (0, .ref (ad 0)), (1, .int p0), (2, .int (nI i))]) hx hb dX2_bakerWithMark_17 rfl hl (by decide) rfl (fun ls hl => ?_)
        refine lv_aload_nN hx hb dX2_bakerWithMark_18 rfl (lv_at hl 0 rfl) ?_
        refine lv_ifnullN (tgt := 32) hx hb dX2_bakerWithMark_19 (by decide) ?_
        refine lv_iinc (v := (nI (i + 1))) (lv' := [(2, .int (nI (i + 1))), (3, .null), (0, .ref (ad 0)), (1, .int p0)]) hx hb dX2_bakerWithMark_32 hl (k := 3) rfl ((nI_1 i)) (by decide) rfl (fun ls hl => ?_)
        refine lv_goto (tgt := 2) hx hb dX2_bakerWithMark_35 (by decide) ?_
        exact ih (i + 1)  _ _ _ (by omega) (by rw [hinv, Nat.sub_eq_zero_of_le hi, Nat.sub_eq_zero_of_le (Nat.le_succ_of_le hi)]; rfl) hP hD hS (lv_sub hl [2, 3, 0] rfl)
  exact loop 6 0  _ _ _ (by omega) rfl hP hD hS (lv_sub hl [1, 2, 0] rfl)
end
section
/-! ===== the town: what an hour does (laid by gen12.py) ===== -/
theorem xM.ofF {S : Type} {l : Launch} {D : va_G} {cy : Nat → ClassId} {y : MethodName} {wd wd' : List Cond} {rm : Room} {av : List Value} {w0 : va_W} {rv : S → Option Value} {P : S → Prop} {w1 : S → va_W} (cc : ByteArray) (maxL : Nat) (ret : Option FieldType) (own : String)
    (hy : plainFor y = true) (ho : y.cls = own) (hw : wd = .code y cc maxL ret :: wd') (hlen : (lg_sl av).length ≤ maxL)
    (body : ∀ (p : Program) (e : Env) (s : State) (m : MethodId) (below : List Frame) (meth : Method) (c : Code) (A : Nat → Prop) (ls : Array Slot), p.tables.exec = Jvm.exec → c.code = cc → meth.sig.returnType = ret → (∀ w ∈ wd, w.before av.toArray s = true) → s.vm.findClass own = some m.cls → meth.locks = false → c.maxLocals = maxL → meth.name = y.name → XK D cy s →
      (∀ q : Nat, s.heap.size ≤ q → A q) → va_P D vwCl w0 s.heap → va_D A w0 → va_S A s.heap s.heap [] → lv_has ls maxL (lv_args 0 av) →
      W p l e rm s m av.toArray below meth c s.heap [] 0 0 (MQ below (xQ D A rv P w1) av.toArray s rm.cells rm.slots A) (F0 m 0 ls [])) : xM l D cy y wd rm av w0 rv P w1 := by
  intro sz
  refine va_MetF (cc := cc) (maxL := maxL) (ret := ret) hy hw ?_
  intro p e s m args below meth c s₁ B hml hv
  obtain ⟨rfl, hsz, hP, hK, hD0⟩ := hv
  subst hsz
  have hts := atoms_spec (ws := wd) B.pre
  have hl := lv_entry av hlen
  rw [lg_entry_eq]
  exact body p e s m below meth c (va_A w0 s.heap.size) _ B.exec B.bytes B.returns hts (by rw [← ho]; exact findClass_of_methodNamed B.named) B.notSynchronized hml (name_of_methodNamed B.named B.method).1 hK (fun q h => Or.inr h) hP hD0.self va_S.rf hl
theorem nI_xor (a b : Nat) : nI a ^^^ nI b = nI (a ^^^ b) := by
  apply Int32.toBitVec_inj.mp
  rw [Int32.toBitVec_xor]
  show BitVec.ofNat 32 a ^^^ BitVec.ofNat 32 b = BitVec.ofNat 32 (a ^^^ b)
  apply BitVec.eq_of_toNat_eq
  simp only [BitVec.toNat_xor, BitVec.toNat_ofNat]
  exact (Nat.xor_mod_two_pow).symm
theorem nI_xor24 {a : Nat} (h : a < 2 ^ 31) : (0 : Int32) ≤ nI a ^^^ 24 := by
  rw [show (24 : Int32) = nI 24 from rfl, nI_xor]
  exact nI_pos' (Nat.xor_lt_two_pow h (by decide))
theorem emp_lt {st : Nat → Iu} : ∀ {n : Nat}, 0 < n → emp st n < n
  | 0, h => absurd h (Nat.lt_irrefl 0)
  | n + 1, _ => by
    show (if n = 0 then 0 else if st n 0 < st (emp st n) 0 then n else emp st n) < n + 1
    split
    · omega
    · split
      · omega
      · have := emp_lt (st := st) (n := n) (by omega); omega
theorem upd_ne {f : Iu} {k j : Nat} {x : Int32} (h : j ≠ k) : upd f k x j = f j := if_neg h
theorem upd_at {f : Iu} {k : Nat} {x : Int32} : upd f k x k = x := if_pos rfl
theorem dlN_0 (u : T2) (j : Nat) : ∀ n, (dlN u n).2 j 0 = u.2 j 0
  | 0 => rfl
  | n + 1 => by
    show (dlStep (dlN u n) n _).2 j 0 = _
    unfold dlStep
    split
    · show va_up (dlN u n).2 n _ j 0 = _
      by_cases h : j = n
      · subst h; rw [up_at, upd_ne (by decide)]; exact dlN_0 u j j
      · rw [up_ne h]; exact dlN_0 u j n
    · exact dlN_0 u j n
theorem bBake_ne (b : Iu) {k : Nat} (h3 : k ≠ 3) (h5 : k ≠ 5) : bBake b k = b k := by
  unfold bBake
  split
  · rw [upd_ne h5, upd_ne h3]
  · rfl
theorem bakeN_ne (bk : Nat → Iu) (j : Nat) {k : Nat} (h3 : k ≠ 3) (h5 : k ≠ 5) : ∀ n, bakeN bk n j k = bk j k
  | 0 => rfl
  | n + 1 => by
    show va_up (bakeN bk n) n _ j k = _
    by_cases h : j = n
    · subst h; rw [up_at, bBake_ne _ h3 h5]; exact bakeN_ne bk j h3 h5 j
    · rw [up_ne h]; exact bakeN_ne bk j h3 h5 n
theorem slN_ne (u : TL) (j : Nat) {k : Nat} (h5 : k ≠ 5) (h6 : k ≠ 6) : ∀ n, (slN u n).2.1 j k = u.2.1 j k
  | 0 => rfl
  | n + 1 => by
    show va_up (slN u n).2.1 n _ j k = _
    by_cases h : j = n
    · subst h; rw [up_at]; unfold bSell; rw [upd_ne h6, upd_ne h5]; exact slN_ne u j h5 h6 j
    · rw [up_ne h]; exact slN_ne u j h5 h6 n
theorem slN_nu (u : TL) {k : Nat} (h2 : k ≠ 2) (h3 : k ≠ 3) : ∀ n, (slN u n).2.2 k = u.2.2 k
  | 0 => rfl
  | n + 1 => by
    show (slStep (slN u n) n).2.2 k = _
    unfold slStep
    show (if _ then _ else _ : Iu) k = _
    split
    · rw [upd_ne h3, upd_ne h2]; exact slN_nu u h2 h3 n
    · rw [upd_ne h2]; exact slN_nu u h2 h3 n
theorem hCart_bk (nS : Nat) (x : Int32) (u : TS) : (hCart nS x u).2.1 = u.2.1 := by unfold hCart; split <;> rfl
theorem hCart_nu (nS : Nat) (x : Int32) (u : TS) {k : Nat} (h : k ≠ 5) : (hCart nS x u).2.2 k = u.2.2 k := by
  unfold hCart
  split
  · rfl
  · exact upd_ne h
theorem hMorn_0 (nS nB k : Nat) (gate : Iu) (u : TS) (j : Nat) : (hMorn nS nB k gate u).2.1 j 0 = u.2.1 j 0 := by
  unfold hMorn hBake
  show bakeN _ nB j 0 = _
  rw [bakeN_ne _ _ (by decide) (by decide)]
  split
  · show (dlN _ nB).2 j 0 = _
    rw [dlN_0]
    show (hCart nS (gate k) u).2.1 j 0 = _
    rw [hCart_bk]
  · rw [hCart_bk]
theorem hMorn_nu (nS nB k : Nat) (gate : Iu) (u : TS) {q : Nat} (h : q ≠ 5) : (hMorn nS nB k gate u).2.2 q = u.2.2 q := by
  unfold hMorn hBake
  show (if k = 0 then hNight nS nB (hCart nS (gate k) u) else hCart nS (gate k) u).2.2 q = _
  split
  · exact hCart_nu nS _ u h
  · exact hCart_nu nS _ u h
theorem hNoon_nu (nB : Nat) (u : TS) {q : Nat} (h : q ≠ 4) : (hNoon nB u).2.2 q = (slN (u.2.2 1, u.2.1, u.2.2) nB).2.2 q := by
  unfold hNoon
  exact upd_ne h
theorem hr_of (nS nB k : Nat) (gate : Iu) (u : TS) (j : Nat) : (hour1 nS nB k gate u).2.1 j 0 = u.2.1 j 0 := by
  unfold hour1 hTick hSale
  show (if k = 12 then hNoon nB (hMorn nS nB k gate u) else hMorn nS nB k gate u).2.1 j 0 = _
  split
  · show (slN _ nB).2.1 j 0 = _
    rw [slN_ne _ _ (by decide) (by decide)]
    exact hMorn_0 nS nB k gate u j
  · exact hMorn_0 nS nB k gate u j
theorem hr_hour (nS nB k : Nat) (gate : Iu) (u : TS) : (hour1 nS nB k gate u).2.2 0 = u.2.2 0 + 1 := by
  unfold hour1 hTick hSale
  show (if k = 12 then hNoon nB (hMorn nS nB k gate u) else hMorn nS nB k gate u).2.2 0 + 1 = _
  split
  · rw [hNoon_nu _ _ (by decide), slN_nu _ (by decide) (by decide)]
    show (hMorn nS nB k gate u).2.2 0 + 1 = _
    rw [hMorn_nu _ _ _ _ _ (by decide)]
  · rw [hMorn_nu _ _ _ _ _ (by decide)]
theorem hrs_of (nS nB h : Nat) (gate : Iu) (u : TS) (j : Nat) : ∀ n, (hrs nS nB h gate u n).2.1 j 0 = u.2.1 j 0
  | 0 => rfl
  | n + 1 => (hr_of _ _ _ _ _ j).trans (hrs_of nS nB h gate u j n)
theorem hrs_hour (nS nB h : Nat) (gate : Iu) (u : TS) (e : u.2.2 0 = nI h) : ∀ n, (hrs nS nB h gate u n).2.2 0 = nI (h + n)
  | 0 => e
  | n + 1 => (hr_hour _ _ _ _ _).trans (by rw [hrs_hour nS nB h gate u e n]; exact nI_1 _)
set_option maxHeartbeats 4000000 in
set_option maxRecDepth 100000 in
/-- floorMod of a number by 24 -/
theorem c_J9_floorMod (l : Launch) (D : va_G) (cy : Nat → ClassId) (a : Nat) (ha : a < 2 ^ 31) : xM l D cy yJ9_floorMod_7cf53 wsJ9_floorMod_7cf53 ({ frames := 0, cells := 0, slots := 0, locals := 0 } : Room) [.int (nI a), .int 24] (([] : va_W)) (fun _ : Unit => some (.int (nI (a % 24)))) (fun _ => True) (fun _ => ([] : va_W)) := by
  refine xM.ofF cJ9_floorMod_7cf53 3 (some .int) RJ9 (by decide +kernel) rfl rfl (Nat.le_of_ble_eq_true rfl) ?_
  intro p e s m below meth c A ls hx hb hr hts hown hlocks hml hin hK hA hP hD hS hl
  have hl : lv_has ls 3 [(0, .int (nI a)), (1, .int 24)] := hl
  refine lv_iload_n hx hb dJ9_floorMod_7cf53_0 rfl (lv_at hl 0 rfl) ?_
  refine lv_iload_n hx hb dJ9_floorMod_7cf53_1 rfl (lv_at hl 1 rfl) ?_
  refine lv_irem hx hb dJ9_floorMod_7cf53_2 (by decide) ?_
  refine lv_istore_n (lv' := [(2, .int ((nI a) - (nI a) / 24 * 24)), (0, .int (nI a)), (1, .int 24)]) hx hb dJ9_floorMod_7cf53_3 rfl hl (by decide) rfl (fun ls hl => ?_)
  refine lv_iload_n hx hb dJ9_floorMod_7cf53_4 rfl (lv_at hl 1 rfl) ?_
  refine lv_iload_n hx hb dJ9_floorMod_7cf53_5 rfl (lv_at hl 2 rfl) ?_
  refine lv_ixor hx hb dJ9_floorMod_7cf53_6 ?_
  refine lv_if_ge (tgt := 18) hx hb dJ9_floorMod_7cf53_7 (by decide) (fun _ => ?_) (fun h => absurd (nI_xor24 ha) h)
  refine lv_iload_n hx hb dJ9_floorMod_7cf53_18 rfl (lv_at hl 0 rfl) ?_
  exact xri () hx hb hr hlocks hS (Nat.le_of_ble_eq_true rfl) (Nat.le_of_ble_eq_true rfl) dJ9_floorMod_7cf53_19 hP hD (congrArg (fun z => some (Value.int z)) (pk_rem (d := 24) ha (by decide) (by decide)).symm) trivial

set_option maxHeartbeats 4000000 in
set_option maxRecDepth 100000 in
/-- hourOfDay -/
theorem c_X2_hourOfDay (l : Launch) (D : va_G) (cy : Nat → ClassId) (ad : Nat → Nat) (nS nB : Nat) (st bk : Nat → Iu) (gate nu : Iu) (h : Nat) (eh : nu 0 = nI h) (hh : h < 2 ^ 31) : xM l D cy yX2_hourOfDay wsX2_hourOfDay ({ frames := 1, cells := 0, slots := 0, locals := 30 } : Room) [.ref (ad 0)] (tw cy ad nS nB st bk gate nu) (fun _ : Unit => some (.int (nI (h % 24)))) (fun _ => True) (fun _ => tw cy ad nS nB st bk gate nu) := by
  refine xM.of cX2_hourOfDay 1 (some .int) RX2 (by decide +kernel) rfl rfl (Nat.le_of_ble_eq_true rfl) ?_
  intro p e s m below meth c A ls hx hb hr hts hown hlocks hml hin hK hA hP hD hS hl
  have hl : lv_has ls 1 [(0, .ref (ad 0))] := hl
  have hinX2 : ∀ w ∈ wsX20, w ∈ wsX2_hourOfDay := fun _ h => List.mem_cons_of_mem _ (List.mem_append_right _ h)
  refine lv_aload_n hx hb dX2_hourOfDay_0 rfl (lv_at hl 0 rfl) ?_
  refine va_get (D := D) (ci := 2) (v := .int (nu 0)) (C := RX2) (T := TX2) (N := 9) hx hb hts hinX2 hown hK.1 hP 0 rfl rfl 3 (by decide) (hts (.fieldLink RX2 31 "LoafMarks$Town" "hour" "I") (List.mem_of_getElem? (i := 1) rfl)) (fun _ h9 => h9) rfl dX2_hourOfDay_1 ?_
  refine W.eq (g2 := F0 m 4 ls [.int (nI h)]) (by rw [eh]) ?_
  refine lv_bipush (v := 24) hx hb dX2_hourOfDay_4 (by decide) ?_
  refine xcS (As := [.int (nI h), .int 24]) (rest := []) ⟨hx, hb, hml, hown, hts⟩ (c_J9_floorMod l D cy h (by omega)) (va_cwS 2 hts gX2_hourOfDay_J9_floorMod_7cf53 rfl rfl rfl (by decide +kernel) ⟨Nat.le_of_ble_eq_true rfl, Nat.le_of_ble_eq_true rfl⟩) hK hP hD hS hA (xE_nil) rfl hl.1 rfl (Nat.le_of_ble_eq_true rfl) dX2_hourOfDay_6 ⟨Nat.le_of_ble_eq_true rfl, Nat.le_of_ble_eq_true rfl⟩ (fun _ H locs _ hP hD hS => ?_)
  have hP : va_P D vwCl (tw cy ad nS nB st bk gate nu) H := hP
  have hD : va_D A (tw cy ad nS nB st bk gate nu) := hD
  refine W.eq (g2 := F0 m 9 ls [.int (nI (h % 24))]) rfl ?_
  exact xri () hx hb hr hlocks hS (Nat.le_of_ble_eq_true rfl) (Nat.le_of_ble_eq_true rfl) dX2_hourOfDay_9 hP hD rfl trivial

set_option maxHeartbeats 4000000 in
set_option maxRecDepth 100000 in
/-- feedAllWeevils -/
theorem c_X2_feedAllWeevils (l : Launch) (D : va_G) (cy : Nat → ClassId) (ad : Nat → Nat) (nS nB : Nat) (st bk : Nat → Iu) (gate nu : Iu) (hcap : nS ≤ 4) : xM l D cy yX2_feedAllWeevils wsX2_feedAllWeevils ({ frames := 3, cells := 0, slots := 0, locals := 80 } : Room) [.ref (ad 0)] (tw cy ad nS nB st bk gate nu) (fun _ : Unit => none) (fun _ => True) (fun _ => tw cy ad nS nB (feedN st nS) bk gate nu) := by
  refine xM.of cX2_feedAllWeevils 5 none RX2 (by decide +kernel) rfl rfl (Nat.le_of_ble_eq_true rfl) ?_
  intro p e s m below meth c A ls hx hb hr hts hown hlocks hml hin hK hA hP hD hS hl
  have hl : lv_has ls 5 [(0, .ref (ad 0))] := hl
  have hinX2 : ∀ w ∈ wsX20, w ∈ wsX2_feedAllWeevils := fun _ h => List.mem_cons_of_mem _ (List.mem_append_left _ (List.mem_append_right _ h))
  refine lv_aload_n hx hb dX2_feedAllWeevils_0 rfl (lv_at hl 0 rfl) ?_
  refine va_get (D := D) (ci := 2) (v := .ref (ad 2)) (C := RX2) (T := TX2) (N := 9) hx hb hts hinX2 hown hK.1 hP 0 rfl rfl 1 (by decide) (hts (.fieldLink RX2 17 "LoafMarks$Town" "stores" "[LLoafMarks$Store;") (List.mem_of_getElem? (i := 1) rfl)) (fun _ h9 => h9) rfl dX2_feedAllWeevils_1 ?_
  refine lv_astore_n (lv' := [(1, .ref (ad 2)), (0, .ref (ad 0))]) hx hb dX2_feedAllWeevils_4 rfl hl (by decide) rfl (fun ls hl => ?_)
  refine lv_aload_n hx hb dX2_feedAllWeevils_5 rfl (lv_at hl 0 rfl) ?_
  refine va_alen hx hb hK.1 hP 2 1 rfl rfl (v := 4) rfl dX2_feedAllWeevils_6 ?_
  refine lv_istore_n (lv' := [(2, .int 4), (1, .ref (ad 2)), (0, .ref (ad 0))]) hx hb dX2_feedAllWeevils_7 rfl hl (by decide) rfl (fun ls hl => ?_)
  refine lv_iconst (v := 0) hx hb dX2_feedAllWeevils_8 (by decide) ?_
  refine lv_istore_n (lv' := [(3, .int 0), (2, .int 4), (1, .ref (ad 2)), (0, .ref (ad 0))]) hx hb dX2_feedAllWeevils_9 rfl hl (by decide) rfl (fun ls hl => ?_)
  have loop : ∀ (n i : Nat) (z : Nat → Iu) (H : Heap) (locs : List Loc) (ls : Array Slot), i + n = 4 → (z = feedN st (min i nS)) → va_P D vwCl (tw cy ad nS nB z bk gate nu) H → va_D A (tw cy ad nS nB z bk gate nu) → va_S A s.heap H locs → lv_has ls 5 [(0, .ref (ad 0)), (1, .ref (ad 2)), (2, .int 4), (3, .int (nI i))] → W p l e ({ frames := 3, cells := 0, slots := 0, locals := 80 } : Room) s m ([.ref (ad 0)] : List Value).toArray below meth c H locs 0 0 (MQ below (xQ D A (fun _ : Unit => none) (fun _ => True) (fun _ => tw cy ad nS nB (feedN st nS) bk gate nu)) ([.ref (ad 0)] : List Value).toArray s 0 0 A) (F0 m 10 ls []) := by
    intro n
    induction n with
    | zero =>
      intro i z H locs ls hns hinv hP hD hS hl
      have hii : i = 4 := by omega
      refine lv_iload_n hx hb dX2_feedAllWeevils_10 rfl (lv_at hl 3 rfl) ?_
      refine lv_iload_n hx hb dX2_feedAllWeevils_11 rfl (lv_at hl 2 rfl) ?_
      refine lv_icmp_ge (tgt := 36) hx hb dX2_feedAllWeevils_12 (by decide) (fun _ => ?_) (fun h => absurd (by rw [hii]; exact Int32.le_refl _) h)
      have e : z = feedN st nS := by rw [hinv, hii, Nat.min_eq_right hcap]
      exact xrv () hx hb hr hlocks hS (Nat.le_of_ble_eq_true rfl) (Nat.le_of_ble_eq_true rfl) dX2_feedAllWeevils_36 (by rw [← e]; exact hP) (by rw [← e]; exact hD) rfl trivial
    | succ n ih =>
      intro i z H locs ls hns hinv hP hD hS hl
      have hlt : i < 4 := by omega
      refine lv_iload_n hx hb dX2_feedAllWeevils_10 rfl (lv_at hl 3 rfl) ?_
      refine lv_iload_n hx hb dX2_feedAllWeevils_11 rfl (lv_at hl 2 rfl) ?_
      refine lv_icmp_ge (tgt := 36) hx hb dX2_feedAllWeevils_12 (by decide) (fun h => absurd h (nI_ge (b := 4) hlt (by omega))) (fun _ => ?_)
      refine lv_aload_n hx hb dX2_feedAllWeevils_15 rfl (lv_at hl 1 rfl) ?_
      refine lv_iload_n hx hb dX2_feedAllWeevils_16 rfl (lv_at hl 3 rfl) ?_
      refine xaldq hx hb hK hP 2 1 rfl rfl i rfl (by omega) (by decide) dX2_feedAllWeevils_17 ?_
      rcases Nat.lt_or_ge i nS with hi | hi
      · refine W.eq (g2 := F0 m 18 ls [.ref (ad (4 + i))]) (by rw [rS_lt hi]) ?_
        refine lv_astore (lv' := [(4, .ref (ad (4 + i))), (0, .ref (ad 0)), (1, .ref (ad 2)), (2, .int 4), (3, .int (nI i))]) hx hb dX2_feedAllWeevils_18 hl (by decide) rfl (fun ls hl => ?_)
        refine lv_aload hx hb dX2_feedAllWeevils_20 (lv_at hl 0 rfl) ?_
        refine lv_ifnull hx hb dX2_feedAllWeevils_22 ?_
        refine lv_aload hx hb dX2_feedAllWeevils_25 (lv_at hl 0 rfl) ?_
        refine xcV (As := []) (rest := []) ⟨hx, hb, hml, hown, hts⟩ (c_X1_feedWeevils l D cy (ad (4 + i)) (z i) ) (cwV 0 hts gX2_feedAllWeevils_X1_feedWeevils rfl rfl rfl (by decide +kernel) ⟨Nat.le_of_ble_eq_true rfl, Nat.le_of_ble_eq_true rfl⟩) hK hP hD hS hA rfl rfl rfl (xE_st (sFeed (z i)) hi) rfl hl.1 rfl (Nat.le_of_ble_eq_true rfl) dX2_feedAllWeevils_27 ⟨Nat.le_of_ble_eq_true rfl, Nat.le_of_ble_eq_true rfl⟩ (fun _ H locs _ hP hD hS => ?_)
        have hP : va_P D vwCl (tw cy ad nS nB (va_up z i (sFeed (z i))) bk gate nu) H := hP
        have hD : va_D A (tw cy ad nS nB (va_up z i (sFeed (z i))) bk gate nu) := hD
        refine W.eq (g2 := F0 m 30 ls []) rfl ?_
        refine lv_iinc (v := (nI (i + 1))) (lv' := [(3, .int (nI (i + 1))), (4, .ref (ad (4 + i))), (0, .ref (ad 0)), (1, .ref (ad 2)), (2, .int 4)]) hx hb dX2_feedAllWeevils_30 hl (k := 4) rfl ((nI_1 i)) (by decide) rfl (fun ls hl => ?_)
        refine lv_goto (tgt := 10) hx hb dX2_feedAllWeevils_33 (by decide) ?_
        exact ih (i + 1) (va_up z i (sFeed (z i))) _ _ _ (by omega) (by rw [min_s hi, hinv, min_l hi]; rfl) hP hD hS (lv_sub hl [2, 3, 4, 0] rfl)
      · refine W.eq (g2 := F0 m 18 ls [.null]) (by rw [rS_ge hi]) ?_
        refine lv_astoreN (lv' := [(4, .null), (0, .ref (ad 0)), (1, .ref (ad 2)), (2, .int 4), (3, .int (nI i))]) hx hb dX2_feedAllWeevils_18 hl (by decide) rfl (fun ls hl => ?_)
        refine lv_aloadN hx hb dX2_feedAllWeevils_20 (lv_at hl 0 rfl) ?_
        refine lv_ifnullN (tgt := 30) hx hb dX2_feedAllWeevils_22 (by decide) ?_
        refine lv_iinc (v := (nI (i + 1))) (lv' := [(3, .int (nI (i + 1))), (4, .null), (0, .ref (ad 0)), (1, .ref (ad 2)), (2, .int 4)]) hx hb dX2_feedAllWeevils_30 hl (k := 4) rfl ((nI_1 i)) (by decide) rfl (fun ls hl => ?_)
        refine lv_goto (tgt := 10) hx hb dX2_feedAllWeevils_33 (by decide) ?_
        exact ih (i + 1) z _ _ _ (by omega) (by rw [min_g hi]; exact hinv) hP hD hS (lv_sub hl [2, 3, 4, 0] rfl)
  exact loop 4 0 st _ _ _ (by omega) (by rw [Nat.zero_min]; rfl) hP hD hS (lv_sub hl [3, 2, 1, 0] rfl)

set_option maxHeartbeats 4000000 in
set_option maxRecDepth 100000 in
/-- bakeAll -/
theorem c_X2_bakeAll (l : Launch) (D : va_G) (cy : Nat → ClassId) (ad : Nat → Nat) (nS nB : Nat) (st bk : Nat → Iu) (gate nu : Iu) (hcap : nB ≤ 6) : xM l D cy yX2_bakeAll wsX2_bakeAll ({ frames := 2, cells := 0, slots := 0, locals := 60 } : Room) [.ref (ad 0)] (tw cy ad nS nB st bk gate nu) (fun _ : Unit => none) (fun _ => True) (fun _ => tw cy ad nS nB st (bakeN bk nB) gate nu) := by
  refine xM.of cX2_bakeAll 5 none RX2 (by decide +kernel) rfl rfl (Nat.le_of_ble_eq_true rfl) ?_
  intro p e s m below meth c A ls hx hb hr hts hown hlocks hml hin hK hA hP hD hS hl
  have hl : lv_has ls 5 [(0, .ref (ad 0))] := hl
  have hinX2 : ∀ w ∈ wsX20, w ∈ wsX2_bakeAll := fun _ h => List.mem_cons_of_mem _ (List.mem_append_left _ (List.mem_append_right _ h))
  refine lv_aload_n hx hb dX2_bakeAll_0 rfl (lv_at hl 0 rfl) ?_
  refine va_get (D := D) (ci := 2) (v := .ref (ad 3)) (C := RX2) (T := TX2) (N := 9) hx hb hts hinX2 hown hK.1 hP 0 rfl rfl 2 (by decide) (hts (.fieldLink RX2 23 "LoafMarks$Town" "bakers" "[LLoafMarks$Baker;") (List.mem_of_getElem? (i := 1) rfl)) (fun _ h9 => h9) rfl dX2_bakeAll_1 ?_
  refine lv_astore_n (lv' := [(1, .ref (ad 3)), (0, .ref (ad 0))]) hx hb dX2_bakeAll_4 rfl hl (by decide) rfl (fun ls hl => ?_)
  refine lv_aload_n hx hb dX2_bakeAll_5 rfl (lv_at hl 0 rfl) ?_
  refine va_alen hx hb hK.1 hP 3 2 rfl rfl (v := 6) rfl dX2_bakeAll_6 ?_
  refine lv_istore_n (lv' := [(2, .int 6), (1, .ref (ad 3)), (0, .ref (ad 0))]) hx hb dX2_bakeAll_7 rfl hl (by decide) rfl (fun ls hl => ?_)
  refine lv_iconst (v := 0) hx hb dX2_bakeAll_8 (by decide) ?_
  refine lv_istore_n (lv' := [(3, .int 0), (2, .int 6), (1, .ref (ad 3)), (0, .ref (ad 0))]) hx hb dX2_bakeAll_9 rfl hl (by decide) rfl (fun ls hl => ?_)
  have loop : ∀ (n i : Nat) (z : Nat → Iu) (H : Heap) (locs : List Loc) (ls : Array Slot), i + n = 6 → (z = bakeN bk (min i nB)) → va_P D vwCl (tw cy ad nS nB st z gate nu) H → va_D A (tw cy ad nS nB st z gate nu) → va_S A s.heap H locs → lv_has ls 5 [(0, .ref (ad 0)), (1, .ref (ad 3)), (2, .int 6), (3, .int (nI i))] → W p l e ({ frames := 2, cells := 0, slots := 0, locals := 60 } : Room) s m ([.ref (ad 0)] : List Value).toArray below meth c H locs 0 0 (MQ below (xQ D A (fun _ : Unit => none) (fun _ => True) (fun _ => tw cy ad nS nB st (bakeN bk nB) gate nu)) ([.ref (ad 0)] : List Value).toArray s 0 0 A) (F0 m 10 ls []) := by
    intro n
    induction n with
    | zero =>
      intro i z H locs ls hns hinv hP hD hS hl
      have hii : i = 6 := by omega
      refine lv_iload_n hx hb dX2_bakeAll_10 rfl (lv_at hl 3 rfl) ?_
      refine lv_iload_n hx hb dX2_bakeAll_11 rfl (lv_at hl 2 rfl) ?_
      refine lv_icmp_ge (tgt := 36) hx hb dX2_bakeAll_12 (by decide) (fun _ => ?_) (fun h => absurd (by rw [hii]; exact Int32.le_refl _) h)
      have e : z = bakeN bk nB := by rw [hinv, hii, Nat.min_eq_right hcap]
      exact xrv () hx hb hr hlocks hS (Nat.le_of_ble_eq_true rfl) (Nat.le_of_ble_eq_true rfl) dX2_bakeAll_36 (by rw [← e]; exact hP) (by rw [← e]; exact hD) rfl trivial
    | succ n ih =>
      intro i z H locs ls hns hinv hP hD hS hl
      have hlt : i < 6 := by omega
      refine lv_iload_n hx hb dX2_bakeAll_10 rfl (lv_at hl 3 rfl) ?_
      refine lv_iload_n hx hb dX2_bakeAll_11 rfl (lv_at hl 2 rfl) ?_
      refine lv_icmp_ge (tgt := 36) hx hb dX2_bakeAll_12 (by decide) (fun h => absurd h (nI_ge (b := 6) hlt (by omega))) (fun _ => ?_)
      refine lv_aload_n hx hb dX2_bakeAll_15 rfl (lv_at hl 1 rfl) ?_
      refine lv_iload_n hx hb dX2_bakeAll_16 rfl (lv_at hl 3 rfl) ?_
      refine xaldq hx hb hK hP 3 2 rfl rfl i rfl (by omega) (by decide) dX2_bakeAll_17 ?_
      rcases Nat.lt_or_ge i nB with hi | hi
      · refine W.eq (g2 := F0 m 18 ls [.ref (ad (8 + i))]) (by rw [rB_lt hi]) ?_
        refine lv_astore (lv' := [(4, .ref (ad (8 + i))), (0, .ref (ad 0)), (1, .ref (ad 3)), (2, .int 6), (3, .int (nI i))]) hx hb dX2_bakeAll_18 hl (by decide) rfl (fun ls hl => ?_)
        refine lv_aload hx hb dX2_bakeAll_20 (lv_at hl 0 rfl) ?_
        refine lv_ifnull hx hb dX2_bakeAll_22 ?_
        refine lv_aload hx hb dX2_bakeAll_25 (lv_at hl 0 rfl) ?_
        refine xcV (As := []) (rest := []) ⟨hx, hb, hml, hown, hts⟩ (c_X0_bake l D cy (ad (8 + i)) (z i) ) (cwV 0 hts gX2_bakeAll_X0_bake rfl rfl rfl (by decide +kernel) ⟨Nat.le_of_ble_eq_true rfl, Nat.le_of_ble_eq_true rfl⟩) hK hP hD hS hA rfl rfl rfl (xE_bk (bBake (z i)) hi) rfl hl.1 rfl (Nat.le_of_ble_eq_true rfl) dX2_bakeAll_27 ⟨Nat.le_of_ble_eq_true rfl, Nat.le_of_ble_eq_true rfl⟩ (fun _ H locs _ hP hD hS => ?_)
        have hP : va_P D vwCl (tw cy ad nS nB st (va_up z i (bBake (z i))) gate nu) H := hP
        have hD : va_D A (tw cy ad nS nB st (va_up z i (bBake (z i))) gate nu) := hD
        refine W.eq (g2 := F0 m 30 ls []) rfl ?_
        refine lv_iinc (v := (nI (i + 1))) (lv' := [(3, .int (nI (i + 1))), (4, .ref (ad (8 + i))), (0, .ref (ad 0)), (1, .ref (ad 3)), (2, .int 6)]) hx hb dX2_bakeAll_30 hl (k := 4) rfl ((nI_1 i)) (by decide) rfl (fun ls hl => ?_)
        refine lv_goto (tgt := 10) hx hb dX2_bakeAll_33 (by decide) ?_
        exact ih (i + 1) (va_up z i (bBake (z i))) _ _ _ (by omega) (by rw [min_s hi, hinv, min_l hi]; rfl) hP hD hS (lv_sub hl [2, 3, 4, 0] rfl)
      · refine W.eq (g2 := F0 m 18 ls [.null]) (by rw [rB_ge hi]) ?_
        refine lv_astoreN (lv' := [(4, .null), (0, .ref (ad 0)), (1, .ref (ad 3)), (2, .int 6), (3, .int (nI i))]) hx hb dX2_bakeAll_18 hl (by decide) rfl (fun ls hl => ?_)
        refine lv_aloadN hx hb dX2_bakeAll_20 (lv_at hl 0 rfl) ?_
        refine lv_ifnullN (tgt := 30) hx hb dX2_bakeAll_22 (by decide) ?_
        refine lv_iinc (v := (nI (i + 1))) (lv' := [(3, .int (nI (i + 1))), (4, .null), (0, .ref (ad 0)), (1, .ref (ad 3)), (2, .int 6)]) hx hb dX2_bakeAll_30 hl (k := 4) rfl ((nI_1 i)) (by decide) rfl (fun ls hl => ?_)
        refine lv_goto (tgt := 10) hx hb dX2_bakeAll_33 (by decide) ?_
        exact ih (i + 1) z _ _ _ (by omega) (by rw [min_g hi]; exact hinv) hP hD hS (lv_sub hl [2, 3, 4, 0] rfl)
  exact loop 6 0 bk _ _ _ (by omega) (by rw [Nat.zero_min]; rfl) hP hD hS (lv_sub hl [3, 2, 1, 0] rfl)

set_option maxHeartbeats 4000000 in
set_option maxRecDepth 100000 in
/-- dealRations -/
theorem c_X2_dealRations (l : Launch) (D : va_G) (cy : Nat → ClassId) (ad : Nat → Nat) (nS nB : Nat) (st bk : Nat → Iu) (gate nu : Iu) (hcS : nS ≤ 4) (hcB : nB ≤ 6) (hof : ∀ j, j < nB → ∃ i, i < nS ∧ bk j 0 = nI i) : xM l D cy yX2_dealRations wsX2_dealRations ({ frames := 2, cells := 0, slots := 0, locals := 60 } : Room) [.ref (ad 0)] (tw cy ad nS nB st bk gate nu) (fun _ : Unit => none) (fun _ => True) (fun _ => tw cy ad nS nB (dlN (st, bk) nB).1 (dlN (st, bk) nB).2 gate nu) := by
  refine xM.of cX2_dealRations 6 none RX2 (by decide +kernel) rfl rfl (Nat.le_of_ble_eq_true rfl) ?_
  intro p e s m below meth c A ls hx hb hr hts hown hlocks hml hin hK hA hP hD hS hl
  have hl : lv_has ls 6 [(0, .ref (ad 0))] := hl
  have hinX0 : ∀ w ∈ wsX00, w ∈ wsX2_dealRations := fun _ h => List.mem_cons_of_mem _ (List.mem_append_left _ (List.mem_append_right _ h))
  have hinX2 : ∀ w ∈ wsX20, w ∈ wsX2_dealRations := fun _ h => List.mem_cons_of_mem _ (List.mem_append_left _ (List.mem_append_left _ (List.mem_append_right _ h)))
  refine lv_aload_n hx hb dX2_dealRations_0 rfl (lv_at hl 0 rfl) ?_
  refine va_get (D := D) (ci := 2) (v := .ref (ad 3)) (C := RX2) (T := TX2) (N := 9) hx hb hts hinX2 hown hK.1 hP 0 rfl rfl 2 (by decide) (hts (.fieldLink RX2 23 "LoafMarks$Town" "bakers" "[LLoafMarks$Baker;") (List.mem_of_getElem? (i := 1) rfl)) (fun _ h9 => h9) rfl dX2_dealRations_1 ?_
  refine lv_astore_n (lv' := [(1, .ref (ad 3)), (0, .ref (ad 0))]) hx hb dX2_dealRations_4 rfl hl (by decide) rfl (fun ls hl => ?_)
  refine lv_aload_n hx hb dX2_dealRations_5 rfl (lv_at hl 0 rfl) ?_
  refine va_alen hx hb hK.1 hP 3 2 rfl rfl (v := 6) rfl dX2_dealRations_6 ?_
  refine lv_istore_n (lv' := [(2, .int 6), (1, .ref (ad 3)), (0, .ref (ad 0))]) hx hb dX2_dealRations_7 rfl hl (by decide) rfl (fun ls hl => ?_)
  refine lv_iconst (v := 0) hx hb dX2_dealRations_8 (by decide) ?_
  refine lv_istore_n (lv' := [(3, .int 0), (2, .int 6), (1, .ref (ad 3)), (0, .ref (ad 0))]) hx hb dX2_dealRations_9 rfl hl (by decide) rfl (fun ls hl => ?_)
  have loop : ∀ (n i : Nat) (u : T2) (H : Heap) (locs : List Loc) (ls : Array Slot), i + n = 6 → (u = dlN (st, bk) (min i nB)) → va_P D vwCl (tw cy ad nS nB u.1 u.2 gate nu) H → va_D A (tw cy ad nS nB u.1 u.2 gate nu) → va_S A s.heap H locs → lv_has ls 6 [(0, .ref (ad 0)), (1, .ref (ad 3)), (2, .int 6), (3, .int (nI i))] → W p l e ({ frames := 2, cells := 0, slots := 0, locals := 60 } : Room) s m ([.ref (ad 0)] : List Value).toArray below meth c H locs 0 0 (MQ below (xQ D A (fun _ : Unit => none) (fun _ => True) (fun _ => tw cy ad nS nB (dlN (st, bk) nB).1 (dlN (st, bk) nB).2 gate nu)) ([.ref (ad 0)] : List Value).toArray s 0 0 A) (F0 m 10 ls []) := by
    intro n
    induction n with
    | zero =>
      intro i u H locs ls hns hinv hP hD hS hl
      have hii : i = 6 := by omega
      refine lv_iload_n hx hb dX2_dealRations_10 rfl (lv_at hl 3 rfl) ?_
      refine lv_iload_n hx hb dX2_dealRations_11 rfl (lv_at hl 2 rfl) ?_
      refine lv_icmp_ge (tgt := 75) hx hb dX2_dealRations_12 (by decide) (fun _ => ?_) (fun h => absurd (by rw [hii]; exact Int32.le_refl _) h)
      have e : u = dlN (st, bk) nB := by rw [hinv, hii, Nat.min_eq_right hcB]
      exact xrv () hx hb hr hlocks hS (Nat.le_of_ble_eq_true rfl) (Nat.le_of_ble_eq_true rfl) dX2_dealRations_75 (by rw [← e]; exact hP) (by rw [← e]; exact hD) rfl trivial
    | succ n ih =>
      intro i u H locs ls hns hinv hP hD hS hl
      have hlt : i < 6 := by omega
      refine lv_iload_n hx hb dX2_dealRations_10 rfl (lv_at hl 3 rfl) ?_
      refine lv_iload_n hx hb dX2_dealRations_11 rfl (lv_at hl 2 rfl) ?_
      refine lv_icmp_ge (tgt := 75) hx hb dX2_dealRations_12 (by decide) (fun h => absurd h (nI_ge (b := 6) hlt (by omega))) (fun _ => ?_)
      refine lv_aload_n hx hb dX2_dealRations_15 rfl (lv_at hl 1 rfl) ?_
      refine lv_iload_n hx hb dX2_dealRations_16 rfl (lv_at hl 3 rfl) ?_
      refine xaldq hx hb hK hP 3 2 rfl rfl i rfl (by omega) (by decide) dX2_dealRations_17 ?_
      rcases Nat.lt_or_ge i nB with hi | hi
      · refine W.eq (g2 := F0 m 18 ls [.ref (ad (8 + i))]) (by rw [rB_lt hi]) ?_
        refine lv_astore (lv' := [(4, .ref (ad (8 + i))), (0, .ref (ad 0)), (1, .ref (ad 3)), (2, .int 6), (3, .int (nI i))]) hx hb dX2_dealRations_18 hl (by decide) rfl (fun ls hl => ?_)
        refine lv_aload hx hb dX2_dealRations_20 (lv_at hl 0 rfl) ?_
        refine lv_ifnull hx hb dX2_dealRations_22 ?_
        refine lv_aload hx hb dX2_dealRations_25 (lv_at hl 0 rfl) ?_
        refine va_get (D := D) (ci := 0) (v := .int (u.2 i 7)) (C := RX0) (T := TX0) (N := 8) hx hb hts hinX0 hown hK.1 hP (4 + nS + i) (tw_bk hi) rfl 7 (by decide) (hts (.fieldLink RX2 120 "LoafMarks$Baker" "barred" "Z") (List.mem_of_getElem? (i := 2) rfl)) (fun _ h9 => h9) rfl dX2_dealRations_27 ?_
        refine lv_if_ne (tgt := 69) hx hb dX2_dealRations_30 (by decide) (fun c30 => ?_) (fun c30 => ?_)
        · have hq : u = dlN (st, bk) i := by rw [hinv, min_l hi]
          refine lv_iinc (v := (nI (i + 1))) (lv' := [(3, .int (nI (i + 1))), (4, .ref (ad (8 + i))), (0, .ref (ad 0)), (1, .ref (ad 3)), (2, .int 6)]) hx hb dX2_dealRations_69 hl (k := 4) rfl ((nI_1 i)) (by decide) rfl (fun ls hl => ?_)
          refine lv_goto (tgt := 10) hx hb dX2_dealRations_72 (by decide) ?_
          exact ih (i + 1) u _ _ _ (by omega) (by rw [min_s hi]; show _ = dlStep (dlN (st, bk) i) i _; rw [← hq]; unfold dlStep; rw [if_neg c30]) hP hD hS (lv_sub hl [2, 3, 4, 0] rfl)
        · have hq : u = dlN (st, bk) i := by rw [hinv, min_l hi]
          obtain ⟨si, hsi, esi⟩ := hof i hi
          have ei : u.2 i 0 = nI si := by rw [hq, dlN_0]; exact esi
          refine lv_aload_n hx hb dX2_dealRations_33 rfl (lv_at hl 1 rfl) ?_
          refine lv_aload hx hb dX2_dealRations_34 (lv_at hl 0 rfl) ?_
          refine va_get (D := D) (ci := 0) (v := .int (u.2 i 0)) (C := RX0) (T := TX0) (N := 8) hx hb hts hinX0 hown hK.1 hP (4 + nS + i) (tw_bk hi) rfl 0 (by decide) (hts (.fieldLink RX2 124 "LoafMarks$Baker" "storeNumber" "I") (List.mem_of_getElem? (i := 3) rfl)) (fun _ h9 => h9) rfl dX2_dealRations_36 ?_
          refine xcV (As := [.int (u.2 i 0)]) (rest := []) ⟨hx, hb, hml, hown, hts⟩ (c_X2_storeAt l D cy ad nS nB u.1 u.2 gate nu (u.2 i 0) (by omega)) (cwV 1 hts gX2_dealRations_X2_storeAt rfl rfl rfl (by decide +kernel) ⟨Nat.le_of_ble_eq_true rfl, Nat.le_of_ble_eq_true rfl⟩) hK hP hD hS hA rfl rfl rfl (xE_all) rfl hl.1 rfl (Nat.le_of_ble_eq_true rfl) dX2_dealRations_39 ⟨Nat.le_of_ble_eq_true rfl, Nat.le_of_ble_eq_true rfl⟩ (fun _ H locs _ hP hD hS => ?_)
          have hP : va_P D vwCl (tw cy ad nS nB u.1 u.2 gate nu) H := hP
          have hD : va_D A (tw cy ad nS nB u.1 u.2 gate nu) := hD
          refine W.eq (g2 := F0 m 42 ls [va_rf (sAt ad nS (u.2 i 0))]) rfl ?_
          refine W.eq (g2 := F0 m 42 ls [.ref (ad (4 + si))]) (by show F0 m 42 ls (va_rf (sAt ad nS (u.2 i 0)) :: _) = _; rw [ei, sAt_nI hsi hcS]) ?_
          refine lv_astore (lv' := [(5, .ref (ad (4 + si))), (4, .ref (ad (8 + i))), (0, .ref (ad 0)), (1, .ref (ad 3)), (2, .int 6), (3, .int (nI i))]) hx hb dX2_dealRations_42 hl (by decide) rfl (fun ls hl => ?_)
          refine lv_aload hx hb dX2_dealRations_44 (lv_at hl 0 rfl) ?_
          refine lv_ifnull hx hb dX2_dealRations_46 ?_
          refine lv_aload hx hb dX2_dealRations_49 (lv_at hl 1 rfl) ?_
          refine lv_dup hx hb dX2_dealRations_51 rfl ?_
          refine va_get (D := D) (ci := 0) (v := .int (u.2 i 3)) (C := RX0) (T := TX0) (N := 8) hx hb hts hinX0 hown hK.1 hP (4 + nS + i) (tw_bk hi) rfl 3 (by decide) (hts (.fieldLink RX2 127 "LoafMarks$Baker" "atHand" "I") (List.mem_of_getElem? (i := 4) rfl)) (fun _ h9 => h9) rfl dX2_dealRations_52 ?_
          refine lv_aload hx hb dX2_dealRations_55 (lv_at hl 0 rfl) ?_
          refine lv_aload hx hb dX2_dealRations_57 (lv_at hl 1 rfl) ?_
          refine va_get (D := D) (ci := 0) (v := .int (u.2 i 2)) (C := RX0) (T := TX0) (N := 8) hx hb hts hinX0 hown hK.1 hP (4 + nS + i) (tw_bk hi) rfl 2 (by decide) (hts (.fieldLink RX2 130 "LoafMarks$Baker" "ration" "I") (List.mem_of_getElem? (i := 5) rfl)) (fun _ h9 => h9) rfl dX2_dealRations_59 ?_
          refine xcV (As := [.int (u.2 i 2)]) (rest := [.int (u.2 i 3), .ref (ad (8 + i))]) ⟨hx, hb, hml, hown, hts⟩ (c_X1_giveOut l D cy (ad (4 + si)) (u.1 si) (u.2 i 2)) (cwV 1 hts gX2_dealRations_X1_giveOut rfl rfl rfl (by decide +kernel) ⟨Nat.le_of_ble_eq_true rfl, Nat.le_of_ble_eq_true rfl⟩) hK hP hD hS hA rfl rfl rfl (xE_st (sGive (u.1 si) (u.2 i 2)) hsi) rfl hl.1 rfl (Nat.le_of_ble_eq_true rfl) dX2_dealRations_62 ⟨Nat.le_of_ble_eq_true rfl, Nat.le_of_ble_eq_true rfl⟩ (fun _ H locs _ hP hD hS => ?_)
          have hP : va_P D vwCl (tw cy ad nS nB (va_up u.1 si (sGive (u.1 si) (u.2 i 2))) u.2 gate nu) H := hP
          have hD : va_D A (tw cy ad nS nB (va_up u.1 si (sGive (u.1 si) (u.2 i 2))) u.2 gate nu) := hD
          refine W.eq (g2 := F0 m 65 ls [.int (mn (u.2 i 2) ((u.1 si) 0)), .int (u.2 i 3), .ref (ad (8 + i))]) rfl ?_
          refine lv_iadd hx hb dX2_dealRations_65 ?_
          refine va_put (D := D) (ci := 0) (v := .int ((u.2 i 3) + (mn (u.2 i 2) ((u.1 si) 0)))) (ty := .int) (C := RX0) (T := TX0) (N := 8) hx hb hts hinX0 tyX0 tyX0_ok nmX0 hown hK.1 hP hD hS (4 + nS + i) (tw_bk hi) rfl 3 (by decide) (hts (.fieldLink RX2 127 "LoafMarks$Baker" "atHand" "I") (List.mem_of_getElem? (i := 4) rfl)) (fun _ h9 => h9) rfl (by decide +kernel) rfl rfl (Nat.le_of_ble_eq_true rfl) dX2_dealRations_66 (fun H locs hP hD hS => ?_)
          have hP : va_P D vwCl (tw cy ad nS nB (va_up u.1 si (sGive (u.1 si) (u.2 i 2))) (va_up u.2 i (upd (u.2 i) 3 ((u.2 i 3) + (mn (u.2 i 2) ((u.1 si) 0))))) gate nu) H := (tw_set_bk hi) ▸ hP
          have hD : va_D A (tw cy ad nS nB (va_up u.1 si (sGive (u.1 si) (u.2 i 2))) (va_up u.2 i (upd (u.2 i) 3 ((u.2 i 3) + (mn (u.2 i 2) ((u.1 si) 0))))) gate nu) := (tw_set_bk hi) ▸ hD
          refine lv_iinc (v := (nI (i + 1))) (lv' := [(3, .int (nI (i + 1))), (5, .ref (ad (4 + si))), (4, .ref (ad (8 + i))), (0, .ref (ad 0)), (1, .ref (ad 3)), (2, .int 6)]) hx hb dX2_dealRations_69 hl (k := 5) rfl ((nI_1 i)) (by decide) rfl (fun ls hl => ?_)
          refine lv_goto (tgt := 10) hx hb dX2_dealRations_72 (by decide) ?_
          exact ih (i + 1) (va_up u.1 si (sGive (u.1 si) (u.2 i 2)), va_up u.2 i (upd (u.2 i) 3 (u.2 i 3 + mn (u.2 i 2) (u.1 si 0)))) _ _ _ (by omega) (by rw [min_s hi]; show _ = dlStep (dlN (st, bk) i) i _; rw [← hq]; unfold dlStep; rw [if_pos c30, ei, nI_clamp (by omega)]) hP hD hS (lv_sub hl [3, 4, 5, 0] rfl)
      · refine W.eq (g2 := F0 m 18 ls [.null]) (by rw [rB_ge hi]) ?_
        refine lv_astoreN (lv' := [(4, .null), (0, .ref (ad 0)), (1, .ref (ad 3)), (2, .int 6), (3, .int (nI i))]) hx hb dX2_dealRations_18 hl (by decide) rfl (fun ls hl => ?_)
        refine lv_aloadN hx hb dX2_dealRations_20 (lv_at hl 0 rfl) ?_
        refine lv_ifnullN (tgt := 69) hx hb dX2_dealRations_22 (by decide) ?_
        refine lv_iinc (v := (nI (i + 1))) (lv' := [(3, .int (nI (i + 1))), (4, .null), (0, .ref (ad 0)), (1, .ref (ad 3)), (2, .int 6)]) hx hb dX2_dealRations_69 hl (k := 4) rfl ((nI_1 i)) (by decide) rfl (fun ls hl => ?_)
        refine lv_goto (tgt := 10) hx hb dX2_dealRations_72 (by decide) ?_
        exact ih (i + 1) u _ _ _ (by omega) (by rw [min_g hi]; exact hinv) hP hD hS (lv_sub hl [2, 3, 4, 0] rfl)
  exact loop 6 0 (st, bk) _ _ _ (by omega) (by rw [Nat.zero_min]; rfl) hP hD hS (lv_sub hl [3, 2, 1, 0] rfl)

set_option maxHeartbeats 4000000 in
set_option maxRecDepth 100000 in
/-- sellAtNoon -/
theorem c_X2_sellAtNoon (l : Launch) (D : va_G) (cy : Nat → ClassId) (ad : Nat → Nat) (nS nB : Nat) (st bk : Nat → Iu) (gate nu : Iu) (hcap : nB ≤ 6) : xM l D cy yX2_sellAtNoon wsX2_sellAtNoon ({ frames := 2, cells := 0, slots := 0, locals := 60 } : Room) [.ref (ad 0)] (tw cy ad nS nB st bk gate nu) (fun _ : Unit => some (.int (hLeft nB (st, bk, nu)))) (fun _ => True) (fun _ => tw cy ad nS nB st (hNoon nB (st, bk, nu)).2.1 gate (hNoon nB (st, bk, nu)).2.2) := by
  refine xM.of cX2_sellAtNoon 7 (some .int) RX2 (by decide +kernel) rfl rfl (Nat.le_of_ble_eq_true rfl) ?_
  intro p e s m below meth c A ls hx hb hr hts hown hlocks hml hin hK hA hP hD hS hl
  have hl : lv_has ls 7 [(0, .ref (ad 0))] := hl
  have hinX2 : ∀ w ∈ wsX20, w ∈ wsX2_sellAtNoon := fun _ h => List.mem_cons_of_mem _ (List.mem_append_left _ (List.mem_append_right _ h))
  refine lv_aload_n hx hb dX2_sellAtNoon_0 rfl (lv_at hl 0 rfl) ?_
  refine va_get (D := D) (ci := 2) (v := .int (nu 1)) (C := RX2) (T := TX2) (N := 9) hx hb hts hinX2 hown hK.1 hP 0 rfl rfl 4 (by decide) (hts (.fieldLink RX2 27 "LoafMarks$Town" "people" "I") (List.mem_of_getElem? (i := 1) rfl)) (fun _ h9 => h9) rfl dX2_sellAtNoon_1 ?_
  refine lv_istore_n (lv' := [(1, .int (nu 1)), (0, .ref (ad 0))]) hx hb dX2_sellAtNoon_4 rfl hl (by decide) rfl (fun ls hl => ?_)
  refine lv_aload_n hx hb dX2_sellAtNoon_5 rfl (lv_at hl 1 rfl) ?_
  refine va_get (D := D) (ci := 2) (v := .ref (ad 3)) (C := RX2) (T := TX2) (N := 9) hx hb hts hinX2 hown hK.1 hP 0 rfl rfl 2 (by decide) (hts (.fieldLink RX2 23 "LoafMarks$Town" "bakers" "[LLoafMarks$Baker;") (List.mem_of_getElem? (i := 2) rfl)) (fun _ h9 => h9) rfl dX2_sellAtNoon_6 ?_
  refine lv_astore_n (lv' := [(2, .ref (ad 3)), (1, .int (nu 1)), (0, .ref (ad 0))]) hx hb dX2_sellAtNoon_9 rfl hl (by decide) rfl (fun ls hl => ?_)
  refine lv_aload_n hx hb dX2_sellAtNoon_10 rfl (lv_at hl 0 rfl) ?_
  refine va_alen hx hb hK.1 hP 3 2 rfl rfl (v := 6) rfl dX2_sellAtNoon_11 ?_
  refine lv_istore_n (lv' := [(3, .int 6), (2, .ref (ad 3)), (1, .int (nu 1)), (0, .ref (ad 0))]) hx hb dX2_sellAtNoon_12 rfl hl (by decide) rfl (fun ls hl => ?_)
  refine lv_iconst (v := 0) hx hb dX2_sellAtNoon_13 (by decide) ?_
  refine lv_istore (lv' := [(4, .int 0), (3, .int 6), (2, .ref (ad 3)), (1, .int (nu 1)), (0, .ref (ad 0))]) hx hb dX2_sellAtNoon_14 hl (by decide) rfl (fun ls hl => ?_)
  have loop : ∀ (n i : Nat) (u : TL) (H : Heap) (locs : List Loc) (ls : Array Slot), i + n = 6 → (u = slN (nu 1, bk, nu) (min i nB)) → va_P D vwCl (tw cy ad nS nB st u.2.1 gate u.2.2) H → va_D A (tw cy ad nS nB st u.2.1 gate u.2.2) → va_S A s.heap H locs → lv_has ls 7 [(0, .ref (ad 0)), (1, .int u.1), (2, .ref (ad 3)), (3, .int 6), (4, .int (nI i))] → W p l e ({ frames := 2, cells := 0, slots := 0, locals := 60 } : Room) s m ([.ref (ad 0)] : List Value).toArray below meth c H locs 0 0 (MQ below (xQ D A (fun _ : Unit => some (.int (hLeft nB (st, bk, nu)))) (fun _ => True) (fun _ => tw cy ad nS nB st (hNoon nB (st, bk, nu)).2.1 gate (hNoon nB (st, bk, nu)).2.2)) ([.ref (ad 0)] : List Value).toArray s 0 0 A) (F0 m 16 ls []) := by
    intro n
    induction n with
    | zero =>
      intro i u H locs ls hns hinv hP hD hS hl
      have hii : i = 6 := by omega
      refine lv_iload hx hb dX2_sellAtNoon_16 (lv_at hl 4 rfl) ?_
      refine lv_iload_n hx hb dX2_sellAtNoon_18 rfl (lv_at hl 3 rfl) ?_
      refine lv_icmp_ge (tgt := 82) hx hb dX2_sellAtNoon_19 (by decide) (fun _ => ?_) (fun h => absurd (by rw [hii]; exact Int32.le_refl _) h)
      refine lv_aload_n hx hb dX2_sellAtNoon_82 rfl (lv_at hl 0 rfl) ?_
      refine lv_dup hx hb dX2_sellAtNoon_83 rfl ?_
      refine va_get (D := D) (ci := 2) (v := .int (u.2.2 4)) (C := RX2) (T := TX2) (N := 9) hx hb hts hinX2 hown hK.1 hP 0 rfl rfl 7 (by decide) (hts (.fieldLink RX2 40 "LoafMarks$Town" "hungry" "I") (List.mem_of_getElem? (i := 5) rfl)) (fun _ h9 => h9) rfl dX2_sellAtNoon_84 ?_
      refine lv_iload_n hx hb dX2_sellAtNoon_87 rfl (lv_at hl 1 rfl) ?_
      refine lv_iadd hx hb dX2_sellAtNoon_88 ?_
      refine va_put (D := D) (ci := 2) (v := .int ((u.2.2 4) + u.1)) (ty := .int) (C := RX2) (T := TX2) (N := 9) hx hb hts hinX2 tyX2 tyX2_ok nmX2 hown hK.1 hP hD hS 0 rfl rfl 7 (by decide) (hts (.fieldLink RX2 40 "LoafMarks$Town" "hungry" "I") (List.mem_of_getElem? (i := 5) rfl)) (fun _ h9 => h9) rfl (by decide +kernel) rfl rfl (Nat.le_of_ble_eq_true rfl) dX2_sellAtNoon_89 (fun H locs hP hD hS => ?_)
      have hP : va_P D vwCl (tw cy ad nS nB st u.2.1 gate (upd u.2.2 4 ((u.2.2 4) + u.1))) H := hP
      have hD : va_D A (tw cy ad nS nB st u.2.1 gate (upd u.2.2 4 ((u.2.2 4) + u.1))) := hD
      refine lv_iload_n hx hb dX2_sellAtNoon_92 rfl (lv_at hl 1 rfl) ?_
      have e : u = slN (nu 1, bk, nu) nB := by rw [hinv, hii, Nat.min_eq_right hcap]
      exact xri () hx hb hr hlocks hS (Nat.le_of_ble_eq_true rfl) (Nat.le_of_ble_eq_true rfl) dX2_sellAtNoon_93 (by unfold hNoon hLeft; show va_P D vwCl (tw cy ad nS nB st (slN (nu 1, bk, nu) nB).2.1 gate (upd (slN (nu 1, bk, nu) nB).2.2 4 ((slN (nu 1, bk, nu) nB).2.2 4 + (slN (nu 1, bk, nu) nB).1))) H; rw [← e]; exact hP) (by unfold hNoon hLeft; show va_D A (tw cy ad nS nB st (slN (nu 1, bk, nu) nB).2.1 gate (upd (slN (nu 1, bk, nu) nB).2.2 4 ((slN (nu 1, bk, nu) nB).2.2 4 + (slN (nu 1, bk, nu) nB).1))); rw [← e]; exact hD) (by show some (Value.int (slN (nu 1, bk, nu) nB).1) = _; rw [e]) trivial
    | succ n ih =>
      intro i u H locs ls hns hinv hP hD hS hl
      have hlt : i < 6 := by omega
      refine lv_iload hx hb dX2_sellAtNoon_16 (lv_at hl 4 rfl) ?_
      refine lv_iload_n hx hb dX2_sellAtNoon_18 rfl (lv_at hl 3 rfl) ?_
      refine lv_icmp_ge (tgt := 82) hx hb dX2_sellAtNoon_19 (by decide) (fun h => absurd h (nI_ge (b := 6) hlt (by omega))) (fun _ => ?_)
      refine lv_aload_n hx hb dX2_sellAtNoon_22 rfl (lv_at hl 2 rfl) ?_
      refine lv_iload hx hb dX2_sellAtNoon_23 (lv_at hl 4 rfl) ?_
      refine xaldq hx hb hK hP 3 2 rfl rfl i rfl (by omega) (by decide) dX2_sellAtNoon_25 ?_
      rcases Nat.lt_or_ge i nB with hi | hi
      · refine W.eq (g2 := F0 m 26 ls [.ref (ad (8 + i))]) (by rw [rB_lt hi]) ?_
        refine lv_astore (lv' := [(5, .ref (ad (8 + i))), (0, .ref (ad 0)), (1, .int u.1), (2, .ref (ad 3)), (3, .int 6), (4, .int (nI i))]) hx hb dX2_sellAtNoon_26 hl (by decide) rfl (fun ls hl => ?_)
        refine lv_aload hx hb dX2_sellAtNoon_28 (lv_at hl 0 rfl) ?_
        refine lv_ifnull hx hb dX2_sellAtNoon_30 ?_
        refine lv_aload hx hb dX2_sellAtNoon_33 (lv_at hl 0 rfl) ?_
        refine lv_iload_n hx hb dX2_sellAtNoon_35 rfl (lv_at hl 2 rfl) ?_
        refine xcV (As := [.int u.1]) (rest := []) ⟨hx, hb, hml, hown, hts⟩ (c_X0_sell l D cy (ad (8 + i)) (u.2.1 i) u.1) (cwV 1 hts gX2_sellAtNoon_X0_sell rfl rfl rfl (by decide +kernel) ⟨Nat.le_of_ble_eq_true rfl, Nat.le_of_ble_eq_true rfl⟩) hK hP hD hS hA rfl rfl rfl (xE_bk (bSell (u.2.1 i) u.1) hi) rfl hl.1 rfl (Nat.le_of_ble_eq_true rfl) dX2_sellAtNoon_36 ⟨Nat.le_of_ble_eq_true rfl, Nat.le_of_ble_eq_true rfl⟩ (fun _ H locs _ hP hD hS => ?_)
        have hP : va_P D vwCl (tw cy ad nS nB st (va_up u.2.1 i (bSell (u.2.1 i) u.1)) gate u.2.2) H := hP
        have hD : va_D A (tw cy ad nS nB st (va_up u.2.1 i (bSell (u.2.1 i) u.1)) gate u.2.2) := hD
        refine W.eq (g2 := F0 m 39 ls [.int (mn u.1 ((u.2.1 i) 5))]) rfl ?_
        refine lv_istore (lv' := [(6, .int (mn u.1 ((u.2.1 i) 5))), (5, .ref (ad (8 + i))), (0, .ref (ad 0)), (1, .int u.1), (2, .ref (ad 3)), (3, .int 6), (4, .int (nI i))]) hx hb dX2_sellAtNoon_39 hl (by decide) rfl (fun ls hl => ?_)
        refine lv_iload_n hx hb dX2_sellAtNoon_41 rfl (lv_at hl 3 rfl) ?_
        refine lv_iload hx hb dX2_sellAtNoon_42 (lv_at hl 0 rfl) ?_
        refine lv_isub hx hb dX2_sellAtNoon_44 ?_
        refine lv_istore_n (lv' := [(1, .int (u.1 - (mn u.1 ((u.2.1 i) 5)))), (6, .int (mn u.1 ((u.2.1 i) 5))), (5, .ref (ad (8 + i))), (0, .ref (ad 0)), (2, .ref (ad 3)), (3, .int 6), (4, .int (nI i))]) hx hb dX2_sellAtNoon_45 rfl hl (by decide) rfl (fun ls hl => ?_)
        refine lv_aload_n hx hb dX2_sellAtNoon_46 rfl (lv_at hl 3 rfl) ?_
        refine lv_dup hx hb dX2_sellAtNoon_47 rfl ?_
        refine va_get (D := D) (ci := 2) (v := .int (u.2.2 2)) (C := RX2) (T := TX2) (N := 9) hx hb hts hinX2 hown hK.1 hP 0 rfl rfl 5 (by decide) (hts (.fieldLink RX2 34 "LoafMarks$Town" "bought" "I") (List.mem_of_getElem? (i := 3) rfl)) (fun _ h9 => h9) rfl dX2_sellAtNoon_48 ?_
        refine lv_iload hx hb dX2_sellAtNoon_51 (lv_at hl 1 rfl) ?_
        refine lv_iadd hx hb dX2_sellAtNoon_53 ?_
        refine va_put (D := D) (ci := 2) (v := .int ((u.2.2 2) + (mn u.1 ((u.2.1 i) 5)))) (ty := .int) (C := RX2) (T := TX2) (N := 9) hx hb hts hinX2 tyX2 tyX2_ok nmX2 hown hK.1 hP hD hS 0 rfl rfl 5 (by decide) (hts (.fieldLink RX2 34 "LoafMarks$Town" "bought" "I") (List.mem_of_getElem? (i := 3) rfl)) (fun _ h9 => h9) rfl (by decide +kernel) rfl rfl (Nat.le_of_ble_eq_true rfl) dX2_sellAtNoon_54 (fun H locs hP hD hS => ?_)
        have hP : va_P D vwCl (tw cy ad nS nB st (va_up u.2.1 i (bSell (u.2.1 i) u.1)) gate (upd u.2.2 2 ((u.2.2 2) + (mn u.1 ((u.2.1 i) 5))))) H := hP
        have hD : va_D A (tw cy ad nS nB st (va_up u.2.1 i (bSell (u.2.1 i) u.1)) gate (upd u.2.2 2 ((u.2.2 2) + (mn u.1 ((u.2.1 i) 5))))) := hD
        refine lv_aload hx hb dX2_sellAtNoon_57 (lv_at hl 2 rfl) ?_
        refine xcV (As := []) (rest := []) ⟨hx, hb, hml, hown, hts⟩ (c_X0_bakesLight l D cy (ad (8 + i)) ((va_up u.2.1 i (bSell (u.2.1 i) u.1)) i)) (cwV 0 hts gX2_sellAtNoon_X0_bakesLight rfl rfl rfl (by decide +kernel) ⟨Nat.le_of_ble_eq_true rfl, Nat.le_of_ble_eq_true rfl⟩) hK hP hD hS hA rfl rfl rfl (xE_bk ((va_up u.2.1 i (bSell (u.2.1 i) u.1)) i) hi) rfl hl.1 rfl (Nat.le_of_ble_eq_true rfl) dX2_sellAtNoon_59 ⟨Nat.le_of_ble_eq_true rfl, Nat.le_of_ble_eq_true rfl⟩ (fun _ H locs _ hP hD hS => ?_)
        refine W.eq (g2 := F0 m 62 ls [.int (bLight ((va_up u.2.1 i (bSell (u.2.1 i) u.1)) i))]) rfl ?_
        rw [up_self] at hP hD
        refine lv_if_eq (tgt := 76) hx hb dX2_sellAtNoon_62 (by decide) (fun c62 => ?_) (fun c62 => ?_)
        · have hq : u = slN (nu 1, bk, nu) i := by rw [hinv, min_l hi]
          have c62 : ¬ u.2.1 i 4 < 10 := fun h => by rw [(show bLight (va_up u.2.1 i (bSell (u.2.1 i) u.1) i) = (if u.2.1 i 4 < 10 then 1 else 0) by unfold bLight; rw [up_at]; rfl), if_pos h] at c62; exact absurd c62 (by decide)
          refine lv_iinc (v := (nI (i + 1))) (lv' := [(4, .int (nI (i + 1))), (1, .int (u.1 - (mn u.1 ((u.2.1 i) 5)))), (6, .int (mn u.1 ((u.2.1 i) 5))), (5, .ref (ad (8 + i))), (0, .ref (ad 0)), (2, .ref (ad 3)), (3, .int 6)]) hx hb dX2_sellAtNoon_76 hl (k := 6) rfl ((nI_1 i)) (by decide) rfl (fun ls hl => ?_)
          refine lv_goto (tgt := 16) hx hb dX2_sellAtNoon_79 (by decide) ?_
          exact ih (i + 1) (u.1 - mn u.1 (u.2.1 i 5), va_up u.2.1 i (bSell (u.2.1 i) u.1), upd u.2.2 2 (u.2.2 2 + mn u.1 (u.2.1 i 5))) _ _ _ (by omega) (by rw [min_s hi]; show _ = slStep (slN (nu 1, bk, nu) i) i; rw [← hq]; unfold slStep; rw [if_neg c62]) hP hD hS (lv_sub hl [4, 1, 5, 6, 0] rfl)
        · have hq : u = slN (nu 1, bk, nu) i := by rw [hinv, min_l hi]
          have c62 : u.2.1 i 4 < 10 := Decidable.byContradiction fun h => c62 (by rw [(show bLight (va_up u.2.1 i (bSell (u.2.1 i) u.1) i) = (if u.2.1 i 4 < 10 then 1 else 0) by unfold bLight; rw [up_at]; rfl), if_neg h])
          refine lv_aload_n hx hb dX2_sellAtNoon_65 rfl (lv_at hl 3 rfl) ?_
          refine lv_dup hx hb dX2_sellAtNoon_66 rfl ?_
          refine va_get (D := D) (ci := 2) (v := .int (u.2.2 3)) (C := RX2) (T := TX2) (N := 9) hx hb hts hinX2 hown hK.1 hP 0 rfl rfl 6 (by decide) (hts (.fieldLink RX2 37 "LoafMarks$Town" "light" "I") (List.mem_of_getElem? (i := 4) rfl)) (fun _ h9 => h9) rfl dX2_sellAtNoon_67 ?_
          refine lv_iload hx hb dX2_sellAtNoon_70 (lv_at hl 1 rfl) ?_
          refine lv_iadd hx hb dX2_sellAtNoon_72 ?_
          refine va_put (D := D) (ci := 2) (v := .int ((u.2.2 3) + (mn u.1 ((u.2.1 i) 5)))) (ty := .int) (C := RX2) (T := TX2) (N := 9) hx hb hts hinX2 tyX2 tyX2_ok nmX2 hown hK.1 hP hD hS 0 rfl rfl 6 (by decide) (hts (.fieldLink RX2 37 "LoafMarks$Town" "light" "I") (List.mem_of_getElem? (i := 4) rfl)) (fun _ h9 => h9) rfl (by decide +kernel) rfl rfl (Nat.le_of_ble_eq_true rfl) dX2_sellAtNoon_73 (fun H locs hP hD hS => ?_)
          have hP : va_P D vwCl (tw cy ad nS nB st (va_up u.2.1 i (bSell (u.2.1 i) u.1)) gate (upd (upd u.2.2 2 ((u.2.2 2) + (mn u.1 ((u.2.1 i) 5)))) 3 ((u.2.2 3) + (mn u.1 ((u.2.1 i) 5))))) H := hP
          have hD : va_D A (tw cy ad nS nB st (va_up u.2.1 i (bSell (u.2.1 i) u.1)) gate (upd (upd u.2.2 2 ((u.2.2 2) + (mn u.1 ((u.2.1 i) 5)))) 3 ((u.2.2 3) + (mn u.1 ((u.2.1 i) 5))))) := hD
          refine lv_iinc (v := (nI (i + 1))) (lv' := [(4, .int (nI (i + 1))), (1, .int (u.1 - (mn u.1 ((u.2.1 i) 5)))), (6, .int (mn u.1 ((u.2.1 i) 5))), (5, .ref (ad (8 + i))), (0, .ref (ad 0)), (2, .ref (ad 3)), (3, .int 6)]) hx hb dX2_sellAtNoon_76 hl (k := 6) rfl ((nI_1 i)) (by decide) rfl (fun ls hl => ?_)
          refine lv_goto (tgt := 16) hx hb dX2_sellAtNoon_79 (by decide) ?_
          exact ih (i + 1) (u.1 - mn u.1 (u.2.1 i 5), va_up u.2.1 i (bSell (u.2.1 i) u.1), upd (upd u.2.2 2 (u.2.2 2 + mn u.1 (u.2.1 i 5))) 3 (u.2.2 3 + mn u.1 (u.2.1 i 5))) _ _ _ (by omega) (by rw [min_s hi]; show _ = slStep (slN (nu 1, bk, nu) i) i; rw [← hq]; unfold slStep; rw [if_pos c62]) hP hD hS (lv_sub hl [4, 1, 5, 6, 0] rfl)
      · refine W.eq (g2 := F0 m 26 ls [.null]) (by rw [rB_ge hi]) ?_
        refine lv_astoreN (lv' := [(5, .null), (0, .ref (ad 0)), (1, .int u.1), (2, .ref (ad 3)), (3, .int 6), (4, .int (nI i))]) hx hb dX2_sellAtNoon_26 hl (by decide) rfl (fun ls hl => ?_)
        refine lv_aloadN hx hb dX2_sellAtNoon_28 (lv_at hl 0 rfl) ?_
        refine lv_ifnullN (tgt := 76) hx hb dX2_sellAtNoon_30 (by decide) ?_
        refine lv_iinc (v := (nI (i + 1))) (lv' := [(4, .int (nI (i + 1))), (5, .null), (0, .ref (ad 0)), (1, .int u.1), (2, .ref (ad 3)), (3, .int 6)]) hx hb dX2_sellAtNoon_76 hl (k := 5) rfl ((nI_1 i)) (by decide) rfl (fun ls hl => ?_)
        refine lv_goto (tgt := 16) hx hb dX2_sellAtNoon_79 (by decide) ?_
        exact ih (i + 1) u _ _ _ (by omega) (by rw [min_g hi]; exact hinv) hP hD hS (lv_sub hl [2, 3, 4, 5, 0] rfl)
  exact loop 6 0 (nu 1, bk, nu) _ _ _ (by omega) (by rw [Nat.zero_min]; rfl) hP hD hS (lv_sub hl [4, 3, 2, 1, 0] rfl)

set_option maxHeartbeats 4000000 in
set_option maxRecDepth 100000 in
/-- emptiestStore -/
theorem c_X2_emptiestStore (l : Launch) (D : va_G) (cy : Nat → ClassId) (ad : Nat → Nat) (nS nB : Nat) (st bk : Nat → Iu) (gate nu : Iu) (hcap : nS ≤ 4) : xM l D cy yX2_emptiestStore wsX2_emptiestStore ({ frames := 0, cells := 0, slots := 0, locals := 0 } : Room) [.ref (ad 0)] (tw cy ad nS nB st bk gate nu) (fun _ : Unit => some (va_rf (if nS = 0 then none else some (ad (4 + emp st nS))))) (fun _ => True) (fun _ => tw cy ad nS nB st bk gate nu) := by
  refine xM.of cX2_emptiestStore 6 (some (.object "LoafMarks$Store")) RX2 (by decide +kernel) rfl rfl (Nat.le_of_ble_eq_true rfl) ?_
  intro p e s m below meth c A ls hx hb hr hts hown hlocks hml hin hK hA hP hD hS hl
  have hl : lv_has ls 6 [(0, .ref (ad 0))] := hl
  have hinX1 : ∀ w ∈ wsX10, w ∈ wsX2_emptiestStore := fun _ h => List.mem_cons_of_mem _ (List.mem_append_right _ h)
  have hinX2 : ∀ w ∈ wsX20, w ∈ wsX2_emptiestStore := fun _ h => List.mem_cons_of_mem _ (List.mem_append_left _ (List.mem_append_right _ h))
  refine lv_null hx hb dX2_emptiestStore_0 ?_
  refine lv_astore_nN (lv' := [(1, .null), (0, .ref (ad 0))]) hx hb dX2_emptiestStore_1 rfl hl (by decide) rfl (fun ls hl => ?_)
  refine lv_aload_n hx hb dX2_emptiestStore_2 rfl (lv_at hl 1 rfl) ?_
  refine va_get (D := D) (ci := 2) (v := .ref (ad 2)) (C := RX2) (T := TX2) (N := 9) hx hb hts hinX2 hown hK.1 hP 0 rfl rfl 1 (by decide) (hts (.fieldLink RX2 17 "LoafMarks$Town" "stores" "[LLoafMarks$Store;") (List.mem_of_getElem? (i := 1) rfl)) (fun _ h9 => h9) rfl dX2_emptiestStore_3 ?_
  refine lv_astore_n (lv' := [(2, .ref (ad 2)), (1, .null), (0, .ref (ad 0))]) hx hb dX2_emptiestStore_6 rfl hl (by decide) rfl (fun ls hl => ?_)
  refine lv_aload_n hx hb dX2_emptiestStore_7 rfl (lv_at hl 0 rfl) ?_
  refine va_alen hx hb hK.1 hP 2 1 rfl rfl (v := 4) rfl dX2_emptiestStore_8 ?_
  refine lv_istore_n (lv' := [(3, .int 4), (2, .ref (ad 2)), (1, .null), (0, .ref (ad 0))]) hx hb dX2_emptiestStore_9 rfl hl (by decide) rfl (fun ls hl => ?_)
  refine lv_iconst (v := 0) hx hb dX2_emptiestStore_10 (by decide) ?_
  refine lv_istore (lv' := [(4, .int 0), (3, .int 4), (2, .ref (ad 2)), (1, .null), (0, .ref (ad 0))]) hx hb dX2_emptiestStore_11 hl (by decide) rfl (fun ls hl => ?_)
  have loop : ∀ (n i : Nat) (r : Option Nat) (H : Heap) (locs : List Loc) (ls : Array Slot), i + n = 4 → (r = if min i nS = 0 then none else some (ad (4 + emp st (min i nS)))) → va_P D vwCl (tw cy ad nS nB st bk gate nu) H → va_D A (tw cy ad nS nB st bk gate nu) → va_S A s.heap H locs → lv_has ls 6 [(0, .ref (ad 0)), (1, va_rf r), (2, .ref (ad 2)), (3, .int 4), (4, .int (nI i))] → W p l e ({ frames := 0, cells := 0, slots := 0, locals := 0 } : Room) s m ([.ref (ad 0)] : List Value).toArray below meth c H locs 0 0 (MQ below (xQ D A (fun _ : Unit => some (va_rf (if nS = 0 then none else some (ad (4 + emp st nS))))) (fun _ => True) (fun _ => tw cy ad nS nB st bk gate nu)) ([.ref (ad 0)] : List Value).toArray s 0 0 A) (F0 m 13 ls []) := by
    intro n
    induction n with
    | zero =>
      intro i r H locs ls hns hinv hP hD hS hl
      have hii : i = 4 := by omega
      refine lv_iload hx hb dX2_emptiestStore_13 (lv_at hl 4 rfl) ?_
      refine lv_iload_n hx hb dX2_emptiestStore_15 rfl (lv_at hl 3 rfl) ?_
      refine lv_icmp_ge (tgt := 55) hx hb dX2_emptiestStore_16 (by decide) (fun _ => ?_) (fun h => absurd (by rw [hii]; exact Int32.le_refl _) h)
      rw [hii, Nat.min_eq_right hcap] at hinv
      rcases Nat.eq_zero_or_pos nS with h0 | h0
      · have hrn : r = none := by rw [hinv, if_pos h0]
        subst hrn
        have hl : lv_has ls 6 [(0, .ref (ad 0)), (1, .null), (2, .ref (ad 2)), (3, .int 4), (4, .int (nI i))] := hl
        refine lv_aload_nN hx hb dX2_emptiestStore_55 rfl (lv_at hl 1 rfl) ?_
        exact xra () hx hb hr (Or.inl ⟨_, rfl⟩) (Or.inl rfl) hlocks hS (Nat.le_of_ble_eq_true rfl) (Nat.le_of_ble_eq_true rfl) dX2_emptiestStore_56 hP hD (by show some (va_rf (if nS = 0 then none else some (ad (4 + emp st nS)))) = _; rw [if_pos h0]; rfl) trivial
      · have hrn : r = some (ad (4 + emp st nS)) := by rw [hinv, if_neg (by omega)]
        subst hrn
        have hl : lv_has ls 6 [(0, .ref (ad 0)), (1, .ref (ad (4 + emp st nS))), (2, .ref (ad 2)), (3, .int 4), (4, .int (nI i))] := hl
        refine lv_aload_n hx hb dX2_emptiestStore_55 rfl (lv_at hl 1 rfl) ?_
        exact xra () hx hb hr (Or.inl ⟨_, rfl⟩) (Or.inr ⟨_, rfl⟩) hlocks hS (Nat.le_of_ble_eq_true rfl) (Nat.le_of_ble_eq_true rfl) dX2_emptiestStore_56 hP hD (by show some (va_rf (if nS = 0 then none else some (ad (4 + emp st nS)))) = _; rw [if_neg (by omega)]; rfl) trivial
    | succ n ih =>
      intro i r H locs ls hns hinv hP hD hS hl
      have hlt : i < 4 := by omega
      refine lv_iload hx hb dX2_emptiestStore_13 (lv_at hl 4 rfl) ?_
      refine lv_iload_n hx hb dX2_emptiestStore_15 rfl (lv_at hl 3 rfl) ?_
      refine lv_icmp_ge (tgt := 55) hx hb dX2_emptiestStore_16 (by decide) (fun h => absurd h (nI_ge (b := 4) hlt (by omega))) (fun _ => ?_)
      refine lv_aload_n hx hb dX2_emptiestStore_19 rfl (lv_at hl 2 rfl) ?_
      refine lv_iload hx hb dX2_emptiestStore_20 (lv_at hl 4 rfl) ?_
      refine xaldq hx hb hK hP 2 1 rfl rfl i rfl (by omega) (by decide) dX2_emptiestStore_22 ?_
      rcases Nat.lt_or_ge i nS with hi | hi
      · refine W.eq (g2 := F0 m 23 ls [.ref (ad (4 + i))]) (by rw [rS_lt hi]) ?_
        refine lv_astore (lv' := [(5, .ref (ad (4 + i))), (0, .ref (ad 0)), (1, va_rf r), (2, .ref (ad 2)), (3, .int 4), (4, .int (nI i))]) hx hb dX2_emptiestStore_23 hl (by decide) rfl (fun ls hl => ?_)
        refine lv_aload hx hb dX2_emptiestStore_25 (lv_at hl 0 rfl) ?_
        refine lv_ifnull hx hb dX2_emptiestStore_27 ?_
        rw [min_l hi] at hinv
        rcases Nat.eq_zero_or_pos i with h0 | h0
        · have hrn : r = none := by rw [hinv, if_pos h0]
          subst hrn
          have hl : lv_has ls 6 [(5, .ref (ad (4 + i))), (0, .ref (ad 0)), (1, .null), (2, .ref (ad 2)), (3, .int 4), (4, .int (nI i))] := hl
          refine lv_aload_nN hx hb dX2_emptiestStore_30 rfl (lv_at hl 2 rfl) ?_
          refine lv_ifnullN (tgt := 46) hx hb dX2_emptiestStore_31 (by decide) ?_
          refine lv_aload hx hb dX2_emptiestStore_46 (lv_at hl 0 rfl) ?_
          refine lv_astore_n (lv' := [(1, .ref (ad (4 + i))), (5, .ref (ad (4 + i))), (0, .ref (ad 0)), (2, .ref (ad 2)), (3, .int 4), (4, .int (nI i))]) hx hb dX2_emptiestStore_48 rfl hl (by decide) rfl (fun ls hl => ?_)
          refine lv_iinc (v := (nI (i + 1))) (lv' := [(4, .int (nI (i + 1))), (1, .ref (ad (4 + i))), (5, .ref (ad (4 + i))), (0, .ref (ad 0)), (2, .ref (ad 2)), (3, .int 4)]) hx hb dX2_emptiestStore_49 hl (k := 5) rfl ((nI_1 i)) (by decide) rfl (fun ls hl => ?_)
          refine lv_goto (tgt := 13) hx hb dX2_emptiestStore_52 (by decide) ?_
          exact ih (i + 1) (some (ad (4 + i))) _ _ _ (by omega) (by rw [min_s hi, if_neg (Nat.succ_ne_zero i), show emp st (i + 1) = i from (if_pos h0).trans h0.symm]) hP hD hS (lv_sub hl [3, 1, 4, 5, 0] rfl)
        · have hrn : r = some (ad (4 + emp st i)) := by rw [hinv, if_neg (by omega)]
          subst hrn
          have hem := emp_lt (st := st) h0
          have hem2 : emp st i < nS := by omega
          have hl : lv_has ls 6 [(5, .ref (ad (4 + i))), (0, .ref (ad 0)), (1, .ref (ad (4 + emp st i))), (2, .ref (ad 2)), (3, .int 4), (4, .int (nI i))] := hl
          refine lv_aload_n hx hb dX2_emptiestStore_30 rfl (lv_at hl 2 rfl) ?_
          refine lv_ifnull hx hb dX2_emptiestStore_31 ?_
          refine lv_aload hx hb dX2_emptiestStore_34 (lv_at hl 0 rfl) ?_
          refine va_get (D := D) (ci := 1) (v := .int (st i 0)) (C := RX1) (T := TX1) (N := 3) hx hb hts hinX1 hown hK.1 hP (4 + i) (tw_st hi) rfl 0 (by decide) (hts (.fieldLink RX2 117 "LoafMarks$Store" "flour" "I") (List.mem_of_getElem? (i := 2) rfl)) (fun _ h9 => h9) rfl dX2_emptiestStore_36 ?_
          refine lv_aload_n hx hb dX2_emptiestStore_39 rfl (lv_at hl 2 rfl) ?_
          refine va_get (D := D) (ci := 1) (v := .int (st (emp st i) 0)) (C := RX1) (T := TX1) (N := 3) hx hb hts hinX1 hown hK.1 hP (4 + (emp st i)) (tw_st hem2) rfl 0 (by decide) (hts (.fieldLink RX2 117 "LoafMarks$Store" "flour" "I") (List.mem_of_getElem? (i := 2) rfl)) (fun _ h9 => h9) rfl dX2_emptiestStore_40 ?_
          refine lv_icmp_ge (tgt := 49) hx hb dX2_emptiestStore_43 (by decide) (fun c43 => ?_) (fun c43 => ?_)
          · refine lv_iinc (v := (nI (i + 1))) (lv' := [(4, .int (nI (i + 1))), (5, .ref (ad (4 + i))), (0, .ref (ad 0)), (1, .ref (ad (4 + emp st i))), (2, .ref (ad 2)), (3, .int 4)]) hx hb dX2_emptiestStore_49 hl (k := 5) rfl ((nI_1 i)) (by decide) rfl (fun ls hl => ?_)
            refine lv_goto (tgt := 13) hx hb dX2_emptiestStore_52 (by decide) ?_
            exact ih (i + 1) (some (ad (4 + emp st i))) _ _ _ (by omega) (by rw [min_s hi, if_neg (Nat.succ_ne_zero i), show emp st (i + 1) = emp st i from (if_neg (by omega)).trans (if_neg (Int32.not_lt.mpr c43))]) hP hD hS (lv_sub hl [2, 3, 4, 5, 0] rfl)
          · refine lv_aload hx hb dX2_emptiestStore_46 (lv_at hl 0 rfl) ?_
            refine lv_astore_n (lv' := [(1, .ref (ad (4 + i))), (5, .ref (ad (4 + i))), (0, .ref (ad 0)), (2, .ref (ad 2)), (3, .int 4), (4, .int (nI i))]) hx hb dX2_emptiestStore_48 rfl hl (by decide) rfl (fun ls hl => ?_)
            refine lv_iinc (v := (nI (i + 1))) (lv' := [(4, .int (nI (i + 1))), (1, .ref (ad (4 + i))), (5, .ref (ad (4 + i))), (0, .ref (ad 0)), (2, .ref (ad 2)), (3, .int 4)]) hx hb dX2_emptiestStore_49 hl (k := 5) rfl ((nI_1 i)) (by decide) rfl (fun ls hl => ?_)
            refine lv_goto (tgt := 13) hx hb dX2_emptiestStore_52 (by decide) ?_
            exact ih (i + 1) (some (ad (4 + i))) _ _ _ (by omega) (by rw [min_s hi, if_neg (Nat.succ_ne_zero i), show emp st (i + 1) = i from (if_neg (by omega)).trans (if_pos (Int32.not_le.mp c43))]) hP hD hS (lv_sub hl [3, 1, 4, 5, 0] rfl)
      · refine W.eq (g2 := F0 m 23 ls [.null]) (by rw [rS_ge hi]) ?_
        refine lv_astoreN (lv' := [(5, .null), (0, .ref (ad 0)), (1, va_rf r), (2, .ref (ad 2)), (3, .int 4), (4, .int (nI i))]) hx hb dX2_emptiestStore_23 hl (by decide) rfl (fun ls hl => ?_)
        refine lv_aloadN hx hb dX2_emptiestStore_25 (lv_at hl 0 rfl) ?_
        refine lv_ifnullN (tgt := 49) hx hb dX2_emptiestStore_27 (by decide) ?_
        refine lv_iinc (v := (nI (i + 1))) (lv' := [(4, .int (nI (i + 1))), (5, .null), (0, .ref (ad 0)), (1, va_rf r), (2, .ref (ad 2)), (3, .int 4)]) hx hb dX2_emptiestStore_49 hl (k := 5) rfl ((nI_1 i)) (by decide) rfl (fun ls hl => ?_)
        refine lv_goto (tgt := 13) hx hb dX2_emptiestStore_52 (by decide) ?_
        exact ih (i + 1) r _ _ _ (by omega) (by rw [min_g hi]; exact hinv) hP hD hS (lv_sub hl [2, 3, 4, 5, 0] rfl)
  exact loop 4 0 none _ _ _ (by omega) (by rw [Nat.zero_min]; rfl) hP hD hS (lv_sub hl [4, 3, 2, 1, 0] rfl)

set_option maxHeartbeats 4000000 in
set_option maxRecDepth 100000 in
/-- unloadCarts -/
theorem c_X2_unloadCarts (l : Launch) (D : va_G) (cy : Nat → ClassId) (ad : Nat → Nat) (nS nB : Nat) (st bk : Nat → Iu) (gate nu : Iu) (p0 : Int32) (hcap : nS ≤ 4) : xM l D cy yX2_unloadCarts wsX2_unloadCarts ({ frames := 2, cells := 0, slots := 0, locals := 60 } : Room) [.ref (ad 0), .int p0] (tw cy ad nS nB st bk gate nu) (fun _ : Unit => none) (fun _ => True) (fun _ => tw cy ad nS nB (hCart nS p0 (st, bk, nu)).1 (hCart nS p0 (st, bk, nu)).2.1 gate (hCart nS p0 (st, bk, nu)).2.2) := by
  refine xM.of cX2_unloadCarts 3 none RX2 (by decide +kernel) rfl rfl (Nat.le_of_ble_eq_true rfl) ?_
  intro p e s m below meth c A ls hx hb hr hts hown hlocks hml hin hK hA hP hD hS hl
  have hl : lv_has ls 3 [(0, .ref (ad 0)), (1, .int p0)] := hl
  have hinX2 : ∀ w ∈ wsX20, w ∈ wsX2_unloadCarts := fun _ h => List.mem_cons_of_mem _ (List.mem_append_left _ (List.mem_append_right _ h))
  refine lv_aload_n hx hb dX2_unloadCarts_0 rfl (lv_at hl 0 rfl) ?_
  refine xcV (As := []) (rest := []) ⟨hx, hb, hml, hown, hts⟩ (c_X2_emptiestStore l D cy ad nS nB st bk gate nu (by omega)) (cwV 0 hts gX2_unloadCarts_X2_emptiestStore rfl rfl rfl (by decide +kernel) ⟨Nat.le_of_ble_eq_true rfl, Nat.le_of_ble_eq_true rfl⟩) hK hP hD hS hA rfl rfl rfl (xE_all) rfl hl.1 rfl (Nat.le_of_ble_eq_true rfl) dX2_unloadCarts_1 ⟨Nat.le_of_ble_eq_true rfl, Nat.le_of_ble_eq_true rfl⟩ (fun _ H locs _ hP hD hS => ?_)
  have hP : va_P D vwCl (tw cy ad nS nB st bk gate nu) H := hP
  have hD : va_D A (tw cy ad nS nB st bk gate nu) := hD
  refine W.eq (g2 := F0 m 4 ls [va_rf (if nS = 0 then none else some (ad (4 + emp st nS)))]) rfl ?_
  rcases Nat.eq_zero_or_pos nS with h0 | h0
  · refine W.eq (g2 := F0 m 4 ls [.null]) (by rw [if_pos h0]; rfl) ?_
    refine lv_astore_nN (lv' := [(2, .null), (0, .ref (ad 0)), (1, .int p0)]) hx hb dX2_unloadCarts_4 rfl hl (by decide) rfl (fun ls hl => ?_)
    refine lv_aload_nN hx hb dX2_unloadCarts_5 rfl (lv_at hl 0 rfl) ?_
    refine lv_ifnullN (tgt := 23) hx hb dX2_unloadCarts_6 (by decide) ?_
    have e : hCart nS p0 (st, bk, nu) = (st, bk, nu) := if_pos h0
    exact xrv () hx hb hr hlocks hS (Nat.le_of_ble_eq_true rfl) (Nat.le_of_ble_eq_true rfl) dX2_unloadCarts_23 (by rw [e]; exact hP) (by rw [e]; exact hD) rfl trivial
  · have hem := emp_lt (st := st) h0
    refine W.eq (g2 := F0 m 4 ls [.ref (ad (4 + emp st nS))]) (by rw [if_neg (by omega)]; rfl) ?_
    refine lv_astore_n (lv' := [(2, .ref (ad (4 + emp st nS))), (0, .ref (ad 0)), (1, .int p0)]) hx hb dX2_unloadCarts_4 rfl hl (by decide) rfl (fun ls hl => ?_)
    refine lv_aload_n hx hb dX2_unloadCarts_5 rfl (lv_at hl 0 rfl) ?_
    refine lv_ifnull hx hb dX2_unloadCarts_6 ?_
    refine lv_aload_n hx hb dX2_unloadCarts_9 rfl (lv_at hl 1 rfl) ?_
    refine lv_dup hx hb dX2_unloadCarts_10 rfl ?_
    refine va_get (D := D) (ci := 2) (v := .int (nu 5)) (C := RX2) (T := TX2) (N := 9) hx hb hts hinX2 hown hK.1 hP 0 rfl rfl 8 (by decide) (hts (.fieldLink RX2 43 "LoafMarks$Town" "lost" "I") (List.mem_of_getElem? (i := 1) rfl)) (fun _ h9 => h9) rfl dX2_unloadCarts_11 ?_
    refine lv_aload_n hx hb dX2_unloadCarts_14 rfl (lv_at hl 0 rfl) ?_
    refine lv_iload_n hx hb dX2_unloadCarts_15 rfl (lv_at hl 2 rfl) ?_
    refine xcV (As := [.int p0]) (rest := [.int (nu 5), .ref (ad 0)]) ⟨hx, hb, hml, hown, hts⟩ (c_X1_takeIn l D cy (ad (4 + emp st nS)) (st (emp st nS)) p0) (cwV 1 hts gX2_unloadCarts_X1_takeIn rfl rfl rfl (by decide +kernel) ⟨Nat.le_of_ble_eq_true rfl, Nat.le_of_ble_eq_true rfl⟩) hK hP hD hS hA rfl rfl rfl (xE_st (sTake (st (emp st nS)) p0) hem) rfl hl.1 rfl (Nat.le_of_ble_eq_true rfl) dX2_unloadCarts_16 ⟨Nat.le_of_ble_eq_true rfl, Nat.le_of_ble_eq_true rfl⟩ (fun _ H locs _ hP hD hS => ?_)
    have hP : va_P D vwCl (tw cy ad nS nB (va_up st (emp st nS) (sTake (st (emp st nS)) p0)) bk gate nu) H := hP
    have hD : va_D A (tw cy ad nS nB (va_up st (emp st nS) (sTake (st (emp st nS)) p0)) bk gate nu) := hD
    refine W.eq (g2 := F0 m 19 ls [.int (p0 - mn p0 (900 - (st (emp st nS)) 0)), .int (nu 5), .ref (ad 0)]) rfl ?_
    refine lv_iadd hx hb dX2_unloadCarts_19 ?_
    refine va_put (D := D) (ci := 2) (v := .int ((nu 5) + (p0 - mn p0 (900 - (st (emp st nS)) 0)))) (ty := .int) (C := RX2) (T := TX2) (N := 9) hx hb hts hinX2 tyX2 tyX2_ok nmX2 hown hK.1 hP hD hS 0 rfl rfl 8 (by decide) (hts (.fieldLink RX2 43 "LoafMarks$Town" "lost" "I") (List.mem_of_getElem? (i := 1) rfl)) (fun _ h9 => h9) rfl (by decide +kernel) rfl rfl (Nat.le_of_ble_eq_true rfl) dX2_unloadCarts_20 (fun H locs hP hD hS => ?_)
    have hP : va_P D vwCl (tw cy ad nS nB (va_up st (emp st nS) (sTake (st (emp st nS)) p0)) bk gate (upd nu 5 ((nu 5) + (p0 - mn p0 (900 - (st (emp st nS)) 0))))) H := hP
    have hD : va_D A (tw cy ad nS nB (va_up st (emp st nS) (sTake (st (emp st nS)) p0)) bk gate (upd nu 5 ((nu 5) + (p0 - mn p0 (900 - (st (emp st nS)) 0))))) := hD
    have e : hCart nS p0 (st, bk, nu) = (va_up st (emp st nS) (sTake (st (emp st nS)) p0), bk, upd nu 5 (nu 5 + (p0 - mn p0 (900 - st (emp st nS) 0)))) := if_neg (by omega)
    exact xrv () hx hb hr hlocks hS (Nat.le_of_ble_eq_true rfl) (Nat.le_of_ble_eq_true rfl) dX2_unloadCarts_23 (by rw [e]; exact hP) (by rw [e]; exact hD) rfl trivial
end
section
/-! ===== the town: hours (laid by gen13.py) ===== -/
theorem t_eq {k c : Nat} (hk : k < 24) (hc : c < 24) (h : nI k = nI c) : k = c := (nI_eq (by omega) (by omega)).mp h
set_option maxHeartbeats 4000000 in
set_option maxRecDepth 100000 in
/-- goThroughHour -/
theorem c_X2_goThroughHour (l : Launch) (D : va_G) (cy : Nat → ClassId) (ad : Nat → Nat) (nS nB : Nat) (u : TS) (gate : Iu) (h k : Nat) (eh : u.2.2 0 = nI h) (hh : h < 2 ^ 31) (hk : h % 24 = k) (hcS : nS ≤ 4) (hcB : nB ≤ 6) (hof : ∀ j, j < nB → ∃ i, i < nS ∧ u.2.1 j 0 = nI i) : xM l D cy yX2_goThroughHour wsX2_goThroughHour ({ frames := 4, cells := 0, slots := 0, locals := 120 } : Room) [.ref (ad 0)] (tw cy ad nS nB u.1 u.2.1 gate u.2.2) (fun _ : Unit => some (.int (hUnfed nS nB k gate u))) (fun _ => True) (fun _ => tw cy ad nS nB (hour1 nS nB k gate u).1 (hour1 nS nB k gate u).2.1 gate (hour1 nS nB k gate u).2.2) := by
  refine xM.of cX2_goThroughHour 3 (some .int) RX2 (by decide +kernel) rfl rfl (Nat.le_of_ble_eq_true rfl) ?_
  intro p e s m below meth c A ls hx hb hr hts hown hlocks hml hin hK hA hP hD hS hl
  have hl : lv_has ls 3 [(0, .ref (ad 0))] := hl
  have hinX2 : ∀ w ∈ wsX20, w ∈ wsX2_goThroughHour := fun _ h => List.mem_cons_of_mem _ (List.mem_append_left _ (List.mem_append_left _ (List.mem_append_right _ h)))
  refine lv_aload_n hx hb dX2_goThroughHour_0 rfl (lv_at hl 0 rfl) ?_
  refine xcV (As := []) (rest := []) ⟨hx, hb, hml, hown, hts⟩ (c_X2_hourOfDay l D cy ad nS nB u.1 u.2.1 gate u.2.2 h eh hh) (cwV 0 hts gX2_goThroughHour_X2_hourOfDay rfl rfl rfl (by decide +kernel) ⟨Nat.le_of_ble_eq_true rfl, Nat.le_of_ble_eq_true rfl⟩) hK hP hD hS hA rfl rfl rfl (xE_all) rfl hl.1 rfl (Nat.le_of_ble_eq_true rfl) dX2_goThroughHour_1 ⟨Nat.le_of_ble_eq_true rfl, Nat.le_of_ble_eq_true rfl⟩ (fun _ H locs _ hP hD hS => ?_)
  have hP : va_P D vwCl (tw cy ad nS nB u.1 u.2.1 gate u.2.2) H := hP
  have hD : va_D A (tw cy ad nS nB u.1 u.2.1 gate u.2.2) := hD
  refine W.eq (g2 := F0 m 4 ls [.int (nI k)]) (by rw [← hk]; rfl) ?_
  refine lv_istore_n (lv' := [(1, .int (nI k)), (0, .ref (ad 0))]) hx hb dX2_goThroughHour_4 rfl hl (by decide) rfl (fun ls hl => ?_)
  refine lv_aload_n hx hb dX2_goThroughHour_5 rfl (lv_at hl 1 rfl) ?_
  refine lv_aload_n hx hb dX2_goThroughHour_6 rfl (lv_at hl 1 rfl) ?_
  refine lv_iload_n hx hb dX2_goThroughHour_7 rfl (lv_at hl 0 rfl) ?_
  refine xcV (As := [.int (nI k)]) (rest := [.ref (ad 0)]) ⟨hx, hb, hml, hown, hts⟩ (c_X2_gateAt l D cy ad nS nB u.1 u.2.1 gate u.2.2 k (by omega)) (cwV 1 hts gX2_goThroughHour_X2_gateAt rfl rfl rfl (by decide +kernel) ⟨Nat.le_of_ble_eq_true rfl, Nat.le_of_ble_eq_true rfl⟩) hK hP hD hS hA rfl rfl rfl (xE_all) rfl hl.1 rfl (Nat.le_of_ble_eq_true rfl) dX2_goThroughHour_8 ⟨Nat.le_of_ble_eq_true rfl, Nat.le_of_ble_eq_true rfl⟩ (fun _ H locs _ hP hD hS => ?_)
  have hP : va_P D vwCl (tw cy ad nS nB u.1 u.2.1 gate u.2.2) H := hP
  have hD : va_D A (tw cy ad nS nB u.1 u.2.1 gate u.2.2) := hD
  refine W.eq (g2 := F0 m 11 ls [.int (gate k), .ref (ad 0)]) rfl ?_
  refine xcV (As := [.int (gate k)]) (rest := []) ⟨hx, hb, hml, hown, hts⟩ (c_X2_unloadCarts l D cy ad nS nB u.1 u.2.1 gate u.2.2 (gate k) (by omega)) (cwV 1 hts gX2_goThroughHour_X2_unloadCarts rfl rfl rfl (by decide +kernel) ⟨Nat.le_of_ble_eq_true rfl, Nat.le_of_ble_eq_true rfl⟩) hK hP hD hS hA rfl rfl rfl (xE_all) rfl hl.1 rfl (Nat.le_of_ble_eq_true rfl) dX2_goThroughHour_11 ⟨Nat.le_of_ble_eq_true rfl, Nat.le_of_ble_eq_true rfl⟩ (fun _ H locs _ hP hD hS => ?_)
  have hP : va_P D vwCl (tw cy ad nS nB ((hCart nS (gate k) u).1) ((hCart nS (gate k) u).2.1) gate ((hCart nS (gate k) u).2.2)) H := hP
  have hD : va_D A (tw cy ad nS nB ((hCart nS (gate k) u).1) ((hCart nS (gate k) u).2.1) gate ((hCart nS (gate k) u).2.2)) := hD
  refine W.eq (g2 := F0 m 14 ls []) rfl ?_
  refine lv_iload_n hx hb dX2_goThroughHour_14 rfl (lv_at hl 0 rfl) ?_
  refine lv_if_ne (tgt := 26) hx hb dX2_goThroughHour_15 (by decide) (fun c15 => ?_) (fun c15 => ?_)
  · have k0 : ¬ k = 0 := fun h => c15 (by rw [h]; rfl)
    refine lv_aload_n hx hb dX2_goThroughHour_26 rfl (lv_at hl 1 rfl) ?_
    refine xcV (As := []) (rest := []) ⟨hx, hb, hml, hown, hts⟩ (c_X2_bakeAll l D cy ad nS nB ((hCart nS (gate k) u).1) ((hCart nS (gate k) u).2.1) gate ((hCart nS (gate k) u).2.2) (by omega)) (cwV 0 hts gX2_goThroughHour_X2_bakeAll rfl rfl rfl (by decide +kernel) ⟨Nat.le_of_ble_eq_true rfl, Nat.le_of_ble_eq_true rfl⟩) hK hP hD hS hA rfl rfl rfl (xE_all) rfl hl.1 rfl (Nat.le_of_ble_eq_true rfl) dX2_goThroughHour_27 ⟨Nat.le_of_ble_eq_true rfl, Nat.le_of_ble_eq_true rfl⟩ (fun _ H locs _ hP hD hS => ?_)
    have hP : va_P D vwCl (tw cy ad nS nB ((hBake nB (hCart nS (gate k) u)).1) ((hBake nB (hCart nS (gate k) u)).2.1) gate ((hBake nB (hCart nS (gate k) u)).2.2)) H := hP
    have hD : va_D A (tw cy ad nS nB ((hBake nB (hCart nS (gate k) u)).1) ((hBake nB (hCart nS (gate k) u)).2.1) gate ((hBake nB (hCart nS (gate k) u)).2.2)) := hD
    refine W.eq (g2 := F0 m 30 ls []) rfl ?_
    have em : hMorn nS nB k gate u = hBake nB (hCart nS (gate k) u) := by unfold hMorn; rw [if_neg k0]
    have hP : va_P D vwCl (tw cy ad nS nB ((hMorn nS nB k gate u).1) ((hMorn nS nB k gate u).2.1) gate ((hMorn nS nB k gate u).2.2)) H := by rw [em]; exact hP
    have hD : va_D A (tw cy ad nS nB ((hMorn nS nB k gate u).1) ((hMorn nS nB k gate u).2.1) gate ((hMorn nS nB k gate u).2.2)) := by rw [em]; exact hD
    refine lv_iload_n hx hb dX2_goThroughHour_30 rfl (lv_at hl 0 rfl) ?_
    refine lv_bipush (v := 12) hx hb dX2_goThroughHour_31 (by decide) ?_
    refine lv_icmp_ne (tgt := 43) hx hb dX2_goThroughHour_33 (by decide) (fun c33 => ?_) (fun c33 => ?_)
    · have k12 : ¬ k = 12 := fun h => c33 (by rw [h]; rfl)
      refine lv_iconst (v := 0) hx hb dX2_goThroughHour_43 (by decide) ?_
      refine lv_istore_n (lv' := [(2, .int 0), (1, .int (nI k)), (0, .ref (ad 0))]) hx hb dX2_goThroughHour_44 rfl hl (by decide) rfl (fun ls hl => ?_)
      refine lv_aload_n hx hb dX2_goThroughHour_45 rfl (lv_at hl 2 rfl) ?_
      refine lv_dup hx hb dX2_goThroughHour_46 rfl ?_
      refine va_get (D := D) (ci := 2) (v := .int (((hMorn nS nB k gate u).2.2) 0)) (C := RX2) (T := TX2) (N := 9) hx hb hts hinX2 hown hK.1 hP 0 rfl rfl 3 (by decide) (hts (.fieldLink RX2 31 "LoafMarks$Town" "hour" "I") (List.mem_of_getElem? (i := 1) rfl)) (fun _ h9 => h9) rfl dX2_goThroughHour_47 ?_
      refine lv_iconst (v := 1) hx hb dX2_goThroughHour_50 (by decide) ?_
      refine lv_iadd hx hb dX2_goThroughHour_51 ?_
      refine va_put (D := D) (ci := 2) (v := .int ((((hMorn nS nB k gate u).2.2) 0) + 1)) (ty := .int) (C := RX2) (T := TX2) (N := 9) hx hb hts hinX2 tyX2 tyX2_ok nmX2 hown hK.1 hP hD hS 0 rfl rfl 3 (by decide) (hts (.fieldLink RX2 31 "LoafMarks$Town" "hour" "I") (List.mem_of_getElem? (i := 1) rfl)) (fun _ h9 => h9) rfl (by decide +kernel) rfl rfl (Nat.le_of_ble_eq_true rfl) dX2_goThroughHour_52 (fun H locs hP hD hS => ?_)
      have hP : va_P D vwCl (tw cy ad nS nB ((hMorn nS nB k gate u).1) ((hMorn nS nB k gate u).2.1) gate (upd ((hMorn nS nB k gate u).2.2) 0 ((((hMorn nS nB k gate u).2.2) 0) + 1))) H := hP
      have hD : va_D A (tw cy ad nS nB ((hMorn nS nB k gate u).1) ((hMorn nS nB k gate u).2.1) gate (upd ((hMorn nS nB k gate u).2.2) 0 ((((hMorn nS nB k gate u).2.2) 0) + 1))) := hD
      refine lv_iload_n hx hb dX2_goThroughHour_55 rfl (lv_at hl 0 rfl) ?_
      have e : hour1 nS nB k gate u = hTick (hMorn nS nB k gate u) := by unfold hour1 hSale; rw [if_neg k12]
      exact xri () hx hb hr hlocks hS (Nat.le_of_ble_eq_true rfl) (Nat.le_of_ble_eq_true rfl) dX2_goThroughHour_56 (by rw [e]; exact hP) (by rw [e]; exact hD) (by show some (Value.int (hUnfed nS nB k gate u)) = _; unfold hUnfed; rw [if_neg k12]) trivial
    · have k12 : k = 12 := t_eq (by omega) (by omega) c33
      refine lv_aload_n hx hb dX2_goThroughHour_36 rfl (lv_at hl 1 rfl) ?_
      refine xcV (As := []) (rest := []) ⟨hx, hb, hml, hown, hts⟩ (c_X2_sellAtNoon l D cy ad nS nB (hMorn nS nB k gate u).1 (hMorn nS nB k gate u).2.1 gate (hMorn nS nB k gate u).2.2 (by omega)) (cwV 0 hts gX2_goThroughHour_X2_sellAtNoon rfl rfl rfl (by decide +kernel) ⟨Nat.le_of_ble_eq_true rfl, Nat.le_of_ble_eq_true rfl⟩) hK hP hD hS hA rfl rfl rfl (xE_all) rfl hl.1 rfl (Nat.le_of_ble_eq_true rfl) dX2_goThroughHour_37 ⟨Nat.le_of_ble_eq_true rfl, Nat.le_of_ble_eq_true rfl⟩ (fun _ H locs _ hP hD hS => ?_)
      have hP : va_P D vwCl (tw cy ad nS nB ((hNoon nB (hMorn nS nB k gate u)).1) ((hNoon nB (hMorn nS nB k gate u)).2.1) gate ((hNoon nB (hMorn nS nB k gate u)).2.2)) H := hP
      have hD : va_D A (tw cy ad nS nB ((hNoon nB (hMorn nS nB k gate u)).1) ((hNoon nB (hMorn nS nB k gate u)).2.1) gate ((hNoon nB (hMorn nS nB k gate u)).2.2)) := hD
      refine W.eq (g2 := F0 m 40 ls [.int (hLeft nB (hMorn nS nB k gate u))]) rfl ?_
      refine lv_goto (tgt := 44) hx hb dX2_goThroughHour_40 (by decide) ?_
      refine lv_istore_n (lv' := [(2, .int (hLeft nB (hMorn nS nB k gate u))), (1, .int (nI k)), (0, .ref (ad 0))]) hx hb dX2_goThroughHour_44 rfl hl (by decide) rfl (fun ls hl => ?_)
      refine lv_aload_n hx hb dX2_goThroughHour_45 rfl (lv_at hl 2 rfl) ?_
      refine lv_dup hx hb dX2_goThroughHour_46 rfl ?_
      refine va_get (D := D) (ci := 2) (v := .int (((hNoon nB (hMorn nS nB k gate u)).2.2) 0)) (C := RX2) (T := TX2) (N := 9) hx hb hts hinX2 hown hK.1 hP 0 rfl rfl 3 (by decide) (hts (.fieldLink RX2 31 "LoafMarks$Town" "hour" "I") (List.mem_of_getElem? (i := 1) rfl)) (fun _ h9 => h9) rfl dX2_goThroughHour_47 ?_
      refine lv_iconst (v := 1) hx hb dX2_goThroughHour_50 (by decide) ?_
      refine lv_iadd hx hb dX2_goThroughHour_51 ?_
      refine va_put (D := D) (ci := 2) (v := .int ((((hNoon nB (hMorn nS nB k gate u)).2.2) 0) + 1)) (ty := .int) (C := RX2) (T := TX2) (N := 9) hx hb hts hinX2 tyX2 tyX2_ok nmX2 hown hK.1 hP hD hS 0 rfl rfl 3 (by decide) (hts (.fieldLink RX2 31 "LoafMarks$Town" "hour" "I") (List.mem_of_getElem? (i := 1) rfl)) (fun _ h9 => h9) rfl (by decide +kernel) rfl rfl (Nat.le_of_ble_eq_true rfl) dX2_goThroughHour_52 (fun H locs hP hD hS => ?_)
      have hP : va_P D vwCl (tw cy ad nS nB ((hNoon nB (hMorn nS nB k gate u)).1) ((hNoon nB (hMorn nS nB k gate u)).2.1) gate (upd ((hNoon nB (hMorn nS nB k gate u)).2.2) 0 ((((hNoon nB (hMorn nS nB k gate u)).2.2) 0) + 1))) H := hP
      have hD : va_D A (tw cy ad nS nB ((hNoon nB (hMorn nS nB k gate u)).1) ((hNoon nB (hMorn nS nB k gate u)).2.1) gate (upd ((hNoon nB (hMorn nS nB k gate u)).2.2) 0 ((((hNoon nB (hMorn nS nB k gate u)).2.2) 0) + 1))) := hD
      refine lv_iload_n hx hb dX2_goThroughHour_55 rfl (lv_at hl 0 rfl) ?_
      have e : hour1 nS nB k gate u = hTick (hNoon nB (hMorn nS nB k gate u)) := by unfold hour1 hSale; rw [if_pos k12]
      exact xri () hx hb hr hlocks hS (Nat.le_of_ble_eq_true rfl) (Nat.le_of_ble_eq_true rfl) dX2_goThroughHour_56 (by rw [e]; exact hP) (by rw [e]; exact hD) (by show some (Value.int (hUnfed nS nB k gate u)) = _; unfold hUnfed; rw [if_pos k12]) trivial
  · have k0 : k = 0 := t_eq (by omega) (by omega) c15
    refine lv_aload_n hx hb dX2_goThroughHour_18 rfl (lv_at hl 1 rfl) ?_
    refine xcV (As := []) (rest := []) ⟨hx, hb, hml, hown, hts⟩ (c_X2_dealRations l D cy ad nS nB (hCart nS (gate k) u).1 (hCart nS (gate k) u).2.1 gate (hCart nS (gate k) u).2.2 (by omega) (by omega) (by rw [hCart_bk]; exact hof)) (cwV 0 hts gX2_goThroughHour_X2_dealRations rfl rfl rfl (by decide +kernel) ⟨Nat.le_of_ble_eq_true rfl, Nat.le_of_ble_eq_true rfl⟩) hK hP hD hS hA rfl rfl rfl (xE_all) rfl hl.1 rfl (Nat.le_of_ble_eq_true rfl) dX2_goThroughHour_19 ⟨Nat.le_of_ble_eq_true rfl, Nat.le_of_ble_eq_true rfl⟩ (fun _ H locs _ hP hD hS => ?_)
    have hP : va_P D vwCl (tw cy ad nS nB ((dlN ((hCart nS (gate k) u).1, (hCart nS (gate k) u).2.1) nB).1) ((dlN ((hCart nS (gate k) u).1, (hCart nS (gate k) u).2.1) nB).2) gate ((hCart nS (gate k) u).2.2)) H := hP
    have hD : va_D A (tw cy ad nS nB ((dlN ((hCart nS (gate k) u).1, (hCart nS (gate k) u).2.1) nB).1) ((dlN ((hCart nS (gate k) u).1, (hCart nS (gate k) u).2.1) nB).2) gate ((hCart nS (gate k) u).2.2)) := hD
    refine W.eq (g2 := F0 m 22 ls []) rfl ?_
    refine lv_aload_n hx hb dX2_goThroughHour_22 rfl (lv_at hl 1 rfl) ?_
    refine xcV (As := []) (rest := []) ⟨hx, hb, hml, hown, hts⟩ (c_X2_feedAllWeevils l D cy ad nS nB ((dlN ((hCart nS (gate k) u).1, (hCart nS (gate k) u).2.1) nB).1) ((dlN ((hCart nS (gate k) u).1, (hCart nS (gate k) u).2.1) nB).2) gate ((hCart nS (gate k) u).2.2) (by omega)) (cwV 0 hts gX2_goThroughHour_X2_feedAllWeevils rfl rfl rfl (by decide +kernel) ⟨Nat.le_of_ble_eq_true rfl, Nat.le_of_ble_eq_true rfl⟩) hK hP hD hS hA rfl rfl rfl (xE_all) rfl hl.1 rfl (Nat.le_of_ble_eq_true rfl) dX2_goThroughHour_23 ⟨Nat.le_of_ble_eq_true rfl, Nat.le_of_ble_eq_true rfl⟩ (fun _ H locs _ hP hD hS => ?_)
    have hP : va_P D vwCl (tw cy ad nS nB ((hNight nS nB (hCart nS (gate k) u)).1) ((hNight nS nB (hCart nS (gate k) u)).2.1) gate ((hNight nS nB (hCart nS (gate k) u)).2.2)) H := hP
    have hD : va_D A (tw cy ad nS nB ((hNight nS nB (hCart nS (gate k) u)).1) ((hNight nS nB (hCart nS (gate k) u)).2.1) gate ((hNight nS nB (hCart nS (gate k) u)).2.2)) := hD
    refine W.eq (g2 := F0 m 26 ls []) rfl ?_
    refine lv_aload_n hx hb dX2_goThroughHour_26 rfl (lv_at hl 1 rfl) ?_
    refine xcV (As := []) (rest := []) ⟨hx, hb, hml, hown, hts⟩ (c_X2_bakeAll l D cy ad nS nB ((hNight nS nB (hCart nS (gate k) u)).1) ((hNight nS nB (hCart nS (gate k) u)).2.1) gate ((hNight nS nB (hCart nS (gate k) u)).2.2) (by omega)) (cwV 0 hts gX2_goThroughHour_X2_bakeAll rfl rfl rfl (by decide +kernel) ⟨Nat.le_of_ble_eq_true rfl, Nat.le_of_ble_eq_true rfl⟩) hK hP hD hS hA rfl rfl rfl (xE_all) rfl hl.1 rfl (Nat.le_of_ble_eq_true rfl) dX2_goThroughHour_27 ⟨Nat.le_of_ble_eq_true rfl, Nat.le_of_ble_eq_true rfl⟩ (fun _ H locs _ hP hD hS => ?_)
    have hP : va_P D vwCl (tw cy ad nS nB ((hBake nB (hNight nS nB (hCart nS (gate k) u))).1) ((hBake nB (hNight nS nB (hCart nS (gate k) u))).2.1) gate ((hBake nB (hNight nS nB (hCart nS (gate k) u))).2.2)) H := hP
    have hD : va_D A (tw cy ad nS nB ((hBake nB (hNight nS nB (hCart nS (gate k) u))).1) ((hBake nB (hNight nS nB (hCart nS (gate k) u))).2.1) gate ((hBake nB (hNight nS nB (hCart nS (gate k) u))).2.2)) := hD
    refine W.eq (g2 := F0 m 30 ls []) rfl ?_
    have em : hMorn nS nB k gate u = hBake nB (hNight nS nB (hCart nS (gate k) u)) := by unfold hMorn; rw [if_pos k0]
    have hP : va_P D vwCl (tw cy ad nS nB ((hMorn nS nB k gate u).1) ((hMorn nS nB k gate u).2.1) gate ((hMorn nS nB k gate u).2.2)) H := by rw [em]; exact hP
    have hD : va_D A (tw cy ad nS nB ((hMorn nS nB k gate u).1) ((hMorn nS nB k gate u).2.1) gate ((hMorn nS nB k gate u).2.2)) := by rw [em]; exact hD
    refine lv_iload_n hx hb dX2_goThroughHour_30 rfl (lv_at hl 0 rfl) ?_
    refine lv_bipush (v := 12) hx hb dX2_goThroughHour_31 (by decide) ?_
    refine lv_icmp_ne (tgt := 43) hx hb dX2_goThroughHour_33 (by decide) (fun c33 => ?_) (fun c33 => ?_)
    · have k12 : ¬ k = 12 := fun h => c33 (by rw [h]; rfl)
      refine lv_iconst (v := 0) hx hb dX2_goThroughHour_43 (by decide) ?_
      refine lv_istore_n (lv' := [(2, .int 0), (1, .int (nI k)), (0, .ref (ad 0))]) hx hb dX2_goThroughHour_44 rfl hl (by decide) rfl (fun ls hl => ?_)
      refine lv_aload_n hx hb dX2_goThroughHour_45 rfl (lv_at hl 2 rfl) ?_
      refine lv_dup hx hb dX2_goThroughHour_46 rfl ?_
      refine va_get (D := D) (ci := 2) (v := .int (((hMorn nS nB k gate u).2.2) 0)) (C := RX2) (T := TX2) (N := 9) hx hb hts hinX2 hown hK.1 hP 0 rfl rfl 3 (by decide) (hts (.fieldLink RX2 31 "LoafMarks$Town" "hour" "I") (List.mem_of_getElem? (i := 1) rfl)) (fun _ h9 => h9) rfl dX2_goThroughHour_47 ?_
      refine lv_iconst (v := 1) hx hb dX2_goThroughHour_50 (by decide) ?_
      refine lv_iadd hx hb dX2_goThroughHour_51 ?_
      refine va_put (D := D) (ci := 2) (v := .int ((((hMorn nS nB k gate u).2.2) 0) + 1)) (ty := .int) (C := RX2) (T := TX2) (N := 9) hx hb hts hinX2 tyX2 tyX2_ok nmX2 hown hK.1 hP hD hS 0 rfl rfl 3 (by decide) (hts (.fieldLink RX2 31 "LoafMarks$Town" "hour" "I") (List.mem_of_getElem? (i := 1) rfl)) (fun _ h9 => h9) rfl (by decide +kernel) rfl rfl (Nat.le_of_ble_eq_true rfl) dX2_goThroughHour_52 (fun H locs hP hD hS => ?_)
      have hP : va_P D vwCl (tw cy ad nS nB ((hMorn nS nB k gate u).1) ((hMorn nS nB k gate u).2.1) gate (upd ((hMorn nS nB k gate u).2.2) 0 ((((hMorn nS nB k gate u).2.2) 0) + 1))) H := hP
      have hD : va_D A (tw cy ad nS nB ((hMorn nS nB k gate u).1) ((hMorn nS nB k gate u).2.1) gate (upd ((hMorn nS nB k gate u).2.2) 0 ((((hMorn nS nB k gate u).2.2) 0) + 1))) := hD
      refine lv_iload_n hx hb dX2_goThroughHour_55 rfl (lv_at hl 0 rfl) ?_
      have e : hour1 nS nB k gate u = hTick (hMorn nS nB k gate u) := by unfold hour1 hSale; rw [if_neg k12]
      exact xri () hx hb hr hlocks hS (Nat.le_of_ble_eq_true rfl) (Nat.le_of_ble_eq_true rfl) dX2_goThroughHour_56 (by rw [e]; exact hP) (by rw [e]; exact hD) (by show some (Value.int (hUnfed nS nB k gate u)) = _; unfold hUnfed; rw [if_neg k12]) trivial
    · have k12 : k = 12 := t_eq (by omega) (by omega) c33
      refine lv_aload_n hx hb dX2_goThroughHour_36 rfl (lv_at hl 1 rfl) ?_
      refine xcV (As := []) (rest := []) ⟨hx, hb, hml, hown, hts⟩ (c_X2_sellAtNoon l D cy ad nS nB (hMorn nS nB k gate u).1 (hMorn nS nB k gate u).2.1 gate (hMorn nS nB k gate u).2.2 (by omega)) (cwV 0 hts gX2_goThroughHour_X2_sellAtNoon rfl rfl rfl (by decide +kernel) ⟨Nat.le_of_ble_eq_true rfl, Nat.le_of_ble_eq_true rfl⟩) hK hP hD hS hA rfl rfl rfl (xE_all) rfl hl.1 rfl (Nat.le_of_ble_eq_true rfl) dX2_goThroughHour_37 ⟨Nat.le_of_ble_eq_true rfl, Nat.le_of_ble_eq_true rfl⟩ (fun _ H locs _ hP hD hS => ?_)
      have hP : va_P D vwCl (tw cy ad nS nB ((hNoon nB (hMorn nS nB k gate u)).1) ((hNoon nB (hMorn nS nB k gate u)).2.1) gate ((hNoon nB (hMorn nS nB k gate u)).2.2)) H := hP
      have hD : va_D A (tw cy ad nS nB ((hNoon nB (hMorn nS nB k gate u)).1) ((hNoon nB (hMorn nS nB k gate u)).2.1) gate ((hNoon nB (hMorn nS nB k gate u)).2.2)) := hD
      refine W.eq (g2 := F0 m 40 ls [.int (hLeft nB (hMorn nS nB k gate u))]) rfl ?_
      refine lv_goto (tgt := 44) hx hb dX2_goThroughHour_40 (by decide) ?_
      refine lv_istore_n (lv' := [(2, .int (hLeft nB (hMorn nS nB k gate u))), (1, .int (nI k)), (0, .ref (ad 0))]) hx hb dX2_goThroughHour_44 rfl hl (by decide) rfl (fun ls hl => ?_)
      refine lv_aload_n hx hb dX2_goThroughHour_45 rfl (lv_at hl 2 rfl) ?_
      refine lv_dup hx hb dX2_goThroughHour_46 rfl ?_
      refine va_get (D := D) (ci := 2) (v := .int (((hNoon nB (hMorn nS nB k gate u)).2.2) 0)) (C := RX2) (T := TX2) (N := 9) hx hb hts hinX2 hown hK.1 hP 0 rfl rfl 3 (by decide) (hts (.fieldLink RX2 31 "LoafMarks$Town" "hour" "I") (List.mem_of_getElem? (i := 1) rfl)) (fun _ h9 => h9) rfl dX2_goThroughHour_47 ?_
      refine lv_iconst (v := 1) hx hb dX2_goThroughHour_50 (by decide) ?_
      refine lv_iadd hx hb dX2_goThroughHour_51 ?_
      refine va_put (D := D) (ci := 2) (v := .int ((((hNoon nB (hMorn nS nB k gate u)).2.2) 0) + 1)) (ty := .int) (C := RX2) (T := TX2) (N := 9) hx hb hts hinX2 tyX2 tyX2_ok nmX2 hown hK.1 hP hD hS 0 rfl rfl 3 (by decide) (hts (.fieldLink RX2 31 "LoafMarks$Town" "hour" "I") (List.mem_of_getElem? (i := 1) rfl)) (fun _ h9 => h9) rfl (by decide +kernel) rfl rfl (Nat.le_of_ble_eq_true rfl) dX2_goThroughHour_52 (fun H locs hP hD hS => ?_)
      have hP : va_P D vwCl (tw cy ad nS nB ((hNoon nB (hMorn nS nB k gate u)).1) ((hNoon nB (hMorn nS nB k gate u)).2.1) gate (upd ((hNoon nB (hMorn nS nB k gate u)).2.2) 0 ((((hNoon nB (hMorn nS nB k gate u)).2.2) 0) + 1))) H := hP
      have hD : va_D A (tw cy ad nS nB ((hNoon nB (hMorn nS nB k gate u)).1) ((hNoon nB (hMorn nS nB k gate u)).2.1) gate (upd ((hNoon nB (hMorn nS nB k gate u)).2.2) 0 ((((hNoon nB (hMorn nS nB k gate u)).2.2) 0) + 1))) := hD
      refine lv_iload_n hx hb dX2_goThroughHour_55 rfl (lv_at hl 0 rfl) ?_
      have e : hour1 nS nB k gate u = hTick (hNoon nB (hMorn nS nB k gate u)) := by unfold hour1 hSale; rw [if_pos k12]
      exact xri () hx hb hr hlocks hS (Nat.le_of_ble_eq_true rfl) (Nat.le_of_ble_eq_true rfl) dX2_goThroughHour_56 (by rw [e]; exact hP) (by rw [e]; exact hD) (by show some (Value.int (hUnfed nS nB k gate u)) = _; unfold hUnfed; rw [if_pos k12]) trivial

set_option maxHeartbeats 4000000 in
set_option maxRecDepth 100000 in
/-- goThrough -/
theorem c_X2_goThrough (l : Launch) (D : va_G) (cy : Nat → ClassId) (ad : Nat → Nat) (nS nB : Nat) (u : TS) (gate : Iu) (h n : Nat) (eh : u.2.2 0 = nI h) (hh : h + n < 2 ^ 31) (hcS : nS ≤ 4) (hcB : nB ≤ 6) (hof : ∀ j, j < nB → ∃ i, i < nS ∧ u.2.1 j 0 = nI i) : xM l D cy yX2_goThrough wsX2_goThrough ({ frames := 5, cells := 0, slots := 0, locals := 150 } : Room) [.ref (ad 0), .int (nI n)] (tw cy ad nS nB u.1 u.2.1 gate u.2.2) (fun _ : Unit => some (.int (unf nS nB h gate u n))) (fun _ => True) (fun _ => tw cy ad nS nB (hrs nS nB h gate u n).1 (hrs nS nB h gate u n).2.1 gate (hrs nS nB h gate u n).2.2) := by
  refine xM.of cX2_goThrough 4 (some .int) RX2 (by decide +kernel) rfl rfl (Nat.le_of_ble_eq_true rfl) ?_
  intro p e s m below meth c A ls hx hb hr hts hown hlocks hml hin hK hA hP hD hS hl
  have hl : lv_has ls 4 [(0, .ref (ad 0)), (1, .int (nI n))] := hl
  refine lv_iconst (v := 0) hx hb dX2_goThrough_0 (by decide) ?_
  refine lv_istore_n (lv' := [(2, .int 0), (0, .ref (ad 0)), (1, .int (nI n))]) hx hb dX2_goThrough_1 rfl hl (by decide) rfl (fun ls hl => ?_)
  refine lv_iconst (v := 0) hx hb dX2_goThrough_2 (by decide) ?_
  refine lv_istore_n (lv' := [(3, .int 0), (2, .int 0), (0, .ref (ad 0)), (1, .int (nI n))]) hx hb dX2_goThrough_3 rfl hl (by decide) rfl (fun ls hl => ?_)
  have loop : ∀ (k i : Nat)  (H : Heap) (locs : List Loc) (ls : Array Slot), i + k = n → va_P D vwCl (tw cy ad nS nB ((hrs nS nB h gate u i).1) ((hrs nS nB h gate u i).2.1) gate ((hrs nS nB h gate u i).2.2)) H → va_D A (tw cy ad nS nB ((hrs nS nB h gate u i).1) ((hrs nS nB h gate u i).2.1) gate ((hrs nS nB h gate u i).2.2)) → va_S A s.heap H locs → lv_has ls 4 [(0, .ref (ad 0)), (1, .int (nI n)), (2, .int (unf nS nB h gate u i)), (3, .int (nI i))] → W p l e ({ frames := 5, cells := 0, slots := 0, locals := 150 } : Room) s m ([.ref (ad 0), .int (nI n)] : List Value).toArray below meth c H locs 0 0 (MQ below (xQ D A (fun _ : Unit => some (.int (unf nS nB h gate u n))) (fun _ => True) (fun _ => tw cy ad nS nB (hrs nS nB h gate u n).1 (hrs nS nB h gate u n).2.1 gate (hrs nS nB h gate u n).2.2)) ([.ref (ad 0), .int (nI n)] : List Value).toArray s 0 0 A) (F0 m 4 ls []) := by
    intro k
    induction k with
    | zero =>
      intro i  H locs ls hns hP hD hS hl
      have hii : i = n := by omega
      refine lv_iload_n hx hb dX2_goThrough_4 rfl (lv_at hl 3 rfl) ?_
      refine lv_iload_n hx hb dX2_goThrough_5 rfl (lv_at hl 1 rfl) ?_
      refine lv_icmp_ge (tgt := 22) hx hb dX2_goThrough_6 (by decide) (fun _ => ?_) (fun h => absurd (by rw [hii]; exact Int32.le_refl _) h)
      refine lv_iload_n hx hb dX2_goThrough_22 rfl (lv_at hl 2 rfl) ?_
      subst hii
      exact xri () hx hb hr hlocks hS (Nat.le_of_ble_eq_true rfl) (Nat.le_of_ble_eq_true rfl) dX2_goThrough_23 hP hD rfl trivial
    | succ k ih =>
      intro i  H locs ls hns hP hD hS hl
      have hlt : i < n := by omega
      refine lv_iload_n hx hb dX2_goThrough_4 rfl (lv_at hl 3 rfl) ?_
      refine lv_iload_n hx hb dX2_goThrough_5 rfl (lv_at hl 1 rfl) ?_
      refine lv_icmp_ge (tgt := 22) hx hb dX2_goThrough_6 (by decide) (fun h => absurd h (nI_ge (b := n) hlt (by omega))) (fun _ => ?_)
      refine lv_iload_n hx hb dX2_goThrough_9 rfl (lv_at hl 2 rfl) ?_
      refine lv_aload_n hx hb dX2_goThrough_10 rfl (lv_at hl 0 rfl) ?_
      refine xcV (As := []) (rest := [.int (unf nS nB h gate u i)]) ⟨hx, hb, hml, hown, hts⟩ (c_X2_goThroughHour l D cy ad nS nB (hrs nS nB h gate u i) gate (h + i) ((h + i) % 24) (hrs_hour nS nB h gate u eh i) (by omega) rfl hcS hcB (fun j hj => by rw [hrs_of]; exact hof j hj)) (cwV 0 hts gX2_goThrough_X2_goThroughHour rfl rfl rfl (by decide +kernel) ⟨Nat.le_of_ble_eq_true rfl, Nat.le_of_ble_eq_true rfl⟩) hK hP hD hS hA rfl rfl rfl (xE_all) rfl hl.1 rfl (Nat.le_of_ble_eq_true rfl) dX2_goThrough_11 ⟨Nat.le_of_ble_eq_true rfl, Nat.le_of_ble_eq_true rfl⟩ (fun _ H locs _ hP hD hS => ?_)
      have hP : va_P D vwCl (tw cy ad nS nB ((hrs nS nB h gate u (i + 1)).1) ((hrs nS nB h gate u (i + 1)).2.1) gate ((hrs nS nB h gate u (i + 1)).2.2)) H := hP
      have hD : va_D A (tw cy ad nS nB ((hrs nS nB h gate u (i + 1)).1) ((hrs nS nB h gate u (i + 1)).2.1) gate ((hrs nS nB h gate u (i + 1)).2.2)) := hD
      refine W.eq (g2 := F0 m 14 ls [.int (hUnfed nS nB ((h + i) % 24) gate (hrs nS nB h gate u i)), .int (unf nS nB h gate u i)]) rfl ?_
      refine lv_iadd hx hb dX2_goThrough_14 ?_
      refine lv_istore_n (lv' := [(2, .int ((unf nS nB h gate u i) + (hUnfed nS nB ((h + i) % 24) gate (hrs nS nB h gate u i)))), (0, .ref (ad 0)), (1, .int (nI n)), (3, .int (nI i))]) hx hb dX2_goThrough_15 rfl hl (by decide) rfl (fun ls hl => ?_)
      refine lv_iinc (v := (nI (i + 1))) (lv' := [(3, .int (nI (i + 1))), (2, .int ((unf nS nB h gate u i) + (hUnfed nS nB ((h + i) % 24) gate (hrs nS nB h gate u i)))), (0, .ref (ad 0)), (1, .int (nI n))]) hx hb dX2_goThrough_16 hl (k := 3) rfl ((nI_1 i)) (by decide) rfl (fun ls hl => ?_)
      refine lv_goto (tgt := 4) hx hb dX2_goThrough_19 (by decide) ?_
      exact ih (i + 1)  _ _ _ (by omega) hP hD hS (lv_sub hl [2, 3, 1, 0] rfl)
  exact loop n 0  _ _ _ (by omega) hP hD hS (lv_sub hl [2, 3, 1, 0] rfl)
end
section
/-! ===== the town: facts, new stores and bakers (laid by gen14.py) ===== -/
theorem x_cA {D : va_G} {cl : List vw_C} {t1 : List (ClassId × FieldType)} {cA cB : ClassId} {ty : FieldType} {U : State} (h : va_K D cl t1 U) (h1 : va_K D cl (t1 ++ [(cA, ty)]) U) {i : Nat} (hi : t1[i]? = some (cB, ty)) (hl : t1.length = 5) : cA = cB := by
  have e1 := (h.2 i _ hi).2
  have e2 := (h1.2 5 (cA, ty) (by rw [List.getElem?_append_right (by omega), hl]; rfl)).2
  have key : ∀ (c : ClassId), va_RA U c ty → U.vm.findClass ("[" ++ ty.toString) = some c := by
    intro c hc
    cases ty with
    | object C => obtain ⟨-, -, -, -, -, h4⟩ := hc; exact h4
    | _ => exact hc
  exact Option.some.inj ((key _ e2).symm.trans (key _ e1))
theorem xE_r {S : Type} {pre w0 : va_W} {w1 : S → va_W} : xE (pre ++ w0) w0 w1 (fun u => pre ++ w1 u) := ⟨pre, List.perm_append_comm, fun u => List.perm_append_comm⟩
theorem xE_l {S : Type} {post w0 : va_W} {w1 : S → va_W} : xE (w0 ++ post) w0 w1 (fun u => w1 u ++ post) := ⟨post, List.Perm.refl _, fun u => List.Perm.refl _⟩
def stFact (st bk : Nat → Iu) (nB i w : Nat) : Int32 := if w = 2 then sm (fun j => if bk j 0 = nI i then 1 else 0) nB else st i (if w = 3 then 2 else w)
def tFact (nS nB : Nat) (st bk : Nat → Iu) (nu : Iu) (h w : Nat) : Int32 :=
  if w = 0 then nu 0 else if w = 1 then nI (h % 24) else if w = 2 then nu 1 else if w = 3 then sm (fun i => st i 0) nS else if w = 4 then sm (fun i => bk i 5) nB else if w = 5 then nu 2 else if w = 6 then nu 3 else if w = 7 then nu 4 else if w = 8 then sm (fun i => if bk i 7 = 0 then 0 else 1) nB else nu 5

theorem xastq {p : Program} {l : Launch} {e : Env} {R : Room} {s : State} {m : MethodId} {args : Array Value} {below : List Frame} {meth : Method} {c : Code} {H H0 : Heap} {locs : List Loc} {cells slots : Nat} {Q : State → Prop} {cc : ByteArray} {pc : Nat} {ls : Array Slot} {rest : List Value} {D : va_G} {cy : Nat → ClassId} {A : Nat → Prop} {ws : va_W} {a n : Nat}
    (hx : p.tables.exec = Jvm.exec) (hb : c.code = cc) (hK : XK D cy s) (hP : va_P D vwCl ws H) (hD : va_D A ws) (hS : va_S A H0 H locs) (q0 t0 qk ci : Nat) {cA : ClassId} {r : vw_C} {v : Nat} {vs : List Value} {f : Nat → Option Nat} (ha : ws[q0]? = some (a, .inl (cA, n, .inr (.inr (.inr (.inr f)))))) (ht : (xt cy)[t0]? = some (cA, .object r.1)) (hv : ws[qk]? = some (v, .inr (ci, vs))) (hc : vwCl[ci]? = some r) (j : Nat) {i : Int32} (hi : i = nI j) (hj : j < n) (hn : n < 2 ^ 31) (hdg : decode cc pc = .ok (.aastore, 1))
    (kk : ∀ (H1 : Heap) (locs1 : List Loc), va_P D vwCl (ws.set q0 (a, .inl (cA, n, .inr (.inr (.inr (.inr (va_up f j (some v)))))))) H1 → va_D A (ws.set q0 (a, .inl (cA, n, .inr (.inr (.inr (.inr (va_up f j (some v)))))))) → va_S A H0 H1 locs1 → W p l e R s m args below meth c H1 locs1 cells slots Q (F0 m (pc + 1) ls rest)) : W p l e R s m args below meth c H locs cells slots Q (F0 m pc ls (.ref v :: .int i :: .ref a :: rest)) := by
  subst hi
  refine va_astq hx hb hK.1 hP hD hS q0 t0 qk ci ha ht hv hc (vp_in_nI hj hn) hdg ?_
  rw [nI_clamp (by omega)]
  exact kk
theorem xastqN {p : Program} {l : Launch} {e : Env} {R : Room} {s : State} {m : MethodId} {args : Array Value} {below : List Frame} {meth : Method} {c : Code} {H H0 : Heap} {locs : List Loc} {cells slots : Nat} {Q : State → Prop} {cc : ByteArray} {pc : Nat} {ls : Array Slot} {rest : List Value} {D : va_G} {cy : Nat → ClassId} {A : Nat → Prop} {ws : va_W} {a n : Nat}
    (hx : p.tables.exec = Jvm.exec) (hb : c.code = cc) (hK : XK D cy s) (hP : va_P D vwCl ws H) (hD : va_D A ws) (hS : va_S A H0 H locs) (q0 t0 : Nat) {cA : ClassId} {C : String} {f : Nat → Option Nat} (ha : ws[q0]? = some (a, .inl (cA, n, .inr (.inr (.inr (.inr f)))))) (ht : (xt cy)[t0]? = some (cA, .object C)) (j : Nat) {i : Int32} (hi : i = nI j) (hj : j < n) (hn : n < 2 ^ 31) (hdg : decode cc pc = .ok (.aastore, 1))
    (kk : ∀ (H1 : Heap) (locs1 : List Loc), va_P D vwCl (ws.set q0 (a, .inl (cA, n, .inr (.inr (.inr (.inr (va_up f j none))))))) H1 → va_D A (ws.set q0 (a, .inl (cA, n, .inr (.inr (.inr (.inr (va_up f j none))))))) → va_S A H0 H1 locs1 → W p l e R s m args below meth c H1 locs1 cells slots Q (F0 m (pc + 1) ls rest)) : W p l e R s m args below meth c H locs cells slots Q (F0 m pc ls (.null :: .int i :: .ref a :: rest)) := by
  subst hi
  refine va_astqN hx hb hK.1 hP hD hS q0 t0 ha ht (vp_in_nI hj hn) hdg ?_
  rw [nI_clamp (by omega)]
  exact kk
theorem zS_cong {a b : Nat → Nat} {n : Nat} {f g : Nat → Iu} (h1 : ∀ i, i < n → a (4 + i) = b (4 + i)) (h2 : ∀ i, i < n → f i = g i) : zS a n f = zS b n g := by
  unfold zS
  apply List.map_congr_left
  intro i hi
  rw [List.mem_range] at hi
  rw [h1 i hi, h2 i hi]
theorem zB_cong {a b : Nat → Nat} {n : Nat} {f g : Nat → Iu} (h1 : ∀ i, i < n → a (8 + i) = b (8 + i)) (h2 : ∀ i, i < n → f i = g i) : zB a n f = zB b n g := by
  unfold zB
  apply List.map_congr_left
  intro i hi
  rw [List.mem_range] at hi
  rw [h1 i hi, h2 i hi]
theorem rS_push {ad : Nat → Nat} {n q : Nat} : va_up (rS ad n) n (some q) = rS (va_up ad (4 + n) q) (n + 1) := by
  funext k
  unfold va_up rS
  by_cases h : k = n
  · subst h; simp
  · by_cases h2 : k < n
    · simp [h, h2, Nat.lt_succ_of_lt h2] <;> omega
    · simp [h, h2] <;> omega
theorem rB_push {ad : Nat → Nat} {n q : Nat} : va_up (rB ad n) n (some q) = rB (va_up ad (8 + n) q) (n + 1) := by
  funext k
  unfold va_up rB
  by_cases h : k = n
  · subst h; simp
  · by_cases h2 : k < n
    · simp [h, h2, Nat.lt_succ_of_lt h2] <;> omega
    · simp [h, h2] <;> omega
theorem rS_keep {a b : Nat → Nat} {n : Nat} (h : ∀ i, i < n → a (4 + i) = b (4 + i)) : rS a n = rS b n := by
  funext k
  unfold rS
  split
  · rw [h k (by assumption)]
  · rfl
theorem rB_keep {a b : Nat → Nat} {n : Nat} (h : ∀ i, i < n → a (8 + i) = b (8 + i)) : rB a n = rB b n := by
  funext k
  unfold rB
  split
  · rw [h k (by assumption)]
  · rfl
/-- a new store behind the others -/
theorem tw_push_st {cy : Nat → ClassId} {ad : Nat → Nat} {nS nB : Nat} {st bk : Nat → Iu} {gate nu : Iu} {q : Nat} {x : Iu} (hn : nS < 4) : List.Perm (((tw cy ad nS nB st bk gate nu) ++ [(q, cSt x)]).set 2 (ad 2, .inl (cy 1, 4, .inr (.inr (.inr (.inr (va_up (rS ad nS) nS (some q)))))))) (tw cy (va_up ad (4 + nS) q) (nS + 1) nB (va_up st nS x) bk gate nu) := by
  have e1 : zS (va_up ad (4 + nS) q) (nS + 1) (va_up st nS x) = zS ad nS st ++ [(q, cSt x)] := by
    have : zS (va_up ad (4 + nS) q) (nS + 1) (va_up st nS x) = zS (va_up ad (4 + nS) q) nS (va_up st nS x) ++ [((va_up ad (4 + nS) q) (4 + nS), cSt ((va_up st nS x) nS))] := by
      unfold zS; rw [List.range_succ, List.map_append]; rfl
    rw [this, up_at, up_at, zS_cong (b := ad) (g := st) (fun i hi => up_ne (by omega)) (fun i hi => up_ne (by omega))]
  have e2 : zB (va_up ad (4 + nS) q) nB bk = zB ad nB bk := zB_cong (fun i hi => up_ne (by omega)) (fun i hi => rfl)
  have e3 : rB (va_up ad (4 + nS) q) nB = rB ad nB := rB_keep (fun i hi => up_ne (by omega))
  have f0 : va_up ad (4 + nS) q 0 = ad 0 := up_ne (by omega)
  have f1 : va_up ad (4 + nS) q 1 = ad 1 := up_ne (by omega)
  have f2 : va_up ad (4 + nS) q 2 = ad 2 := up_ne (by omega)
  have f3 : va_up ad (4 + nS) q 3 = ad 3 := up_ne (by omega)
  unfold tw
  rw [e1, e2]
  unfold tw4 cTn
  rw [f0, f1, f2, f3, e3, ← rS_push]
  show List.Perm (([_, _, _, _] ++ (zS ad nS st ++ zB ad nB bk)) ++ [(q, cSt x)]) _
  rw [List.append_assoc, List.append_assoc, List.append_assoc]
  exact (List.perm_append_comm.append_left _).append_left _
/-- a new baker behind the others -/
theorem tw_push_bk {cy : Nat → ClassId} {ad : Nat → Nat} {nS nB : Nat} {st bk : Nat → Iu} {gate nu : Iu} {q : Nat} {x : Iu} (hS : nS ≤ 4) : List.Perm (((tw cy ad nS nB st bk gate nu) ++ [(q, cBk x)]).set 3 (ad 3, .inl (cy 2, 6, .inr (.inr (.inr (.inr (va_up (rB ad nB) nB (some q)))))))) (tw cy (va_up ad (8 + nB) q) nS (nB + 1) st (va_up bk nB x) gate nu) := by
  have e1 : zB (va_up ad (8 + nB) q) (nB + 1) (va_up bk nB x) = zB ad nB bk ++ [(q, cBk x)] := by
    have : zB (va_up ad (8 + nB) q) (nB + 1) (va_up bk nB x) = zB (va_up ad (8 + nB) q) nB (va_up bk nB x) ++ [((va_up ad (8 + nB) q) (8 + nB), cBk ((va_up bk nB x) nB))] := by
      unfold zB; rw [List.range_succ, List.map_append]; rfl
    rw [this, up_at, up_at, zB_cong (b := ad) (g := bk) (fun i hi => up_ne (by omega)) (fun i hi => up_ne (by omega))]
  have e2 : zS (va_up ad (8 + nB) q) nS st = zS ad nS st := zS_cong (fun i hi => up_ne (by omega)) (fun i hi => rfl)
  have e3 : rS (va_up ad (8 + nB) q) nS = rS ad nS := rS_keep (fun i hi => up_ne (by omega))
  have f0 : va_up ad (8 + nB) q 0 = ad 0 := up_ne (by omega)
  have f1 : va_up ad (8 + nB) q 1 = ad 1 := up_ne (by omega)
  have f2 : va_up ad (8 + nB) q 2 = ad 2 := up_ne (by omega)
  have f3 : va_up ad (8 + nB) q 3 = ad 3 := up_ne (by omega)
  unfold tw
  rw [e1, e2]
  unfold tw4 cTn
  rw [f0, f1, f2, f3, e3, ← rB_push]
  show List.Perm (([_, _, _, _] ++ (zS ad nS st ++ zB ad nB bk)) ++ [(q, cBk x)]) _
  rw [List.append_assoc, List.append_assoc]
theorem last_at {ws : va_W} {x : Nat × va_E} : (ws ++ [x])[ws.length]? = some x := by simp
def newS (f w : Int32) : Iu := upd (upd (fun _ => 0) 0 f) 1 w
def newB (s k g r : Int32) : Iu := upd (upd (upd (upd (fun _ => 0) 0 s) 1 k) 4 g) 2 r
set_option maxHeartbeats 4000000 in
set_option maxRecDepth 100000 in
/-- storeFact -/
theorem c_X2_storeFact (l : Launch) (D : va_G) (cy : Nat → ClassId) (ad : Nat → Nat) (nS nB : Nat) (st bk : Nat → Iu) (gate nu : Iu) (i k : Nat) (hi : i < nS) (hk : k < 4) (hcS : nS ≤ 4) (hcB : nB ≤ 6) : xM l D cy yX2_storeFact wsX2_storeFact ({ frames := 1, cells := 0, slots := 0, locals := 40 } : Room) [.ref (ad 0), .int (nI i), .int (nI k)] (tw cy ad nS nB st bk gate nu) (fun _ : Unit => some (.int (stFact st bk nB i k))) (fun _ => True) (fun _ => tw cy ad nS nB st bk gate nu) := by
  refine xM.of cX2_storeFact 4 (some .int) RX2 (by decide +kernel) rfl rfl (Nat.le_of_ble_eq_true rfl) ?_
  intro p e s m below meth c A ls hx hb hr hts hown hlocks hml hin hK hA hP hD hS hl
  have hl : lv_has ls 4 [(0, .ref (ad 0)), (1, .int (nI i)), (2, .int (nI k))] := hl
  have hinX1 : ∀ w ∈ wsX10, w ∈ wsX2_storeFact := fun _ h => List.mem_cons_of_mem _ (List.mem_append_left _ (List.mem_append_left _ (List.mem_append_right _ h)))
  refine lv_aload_n hx hb dX2_storeFact_0 rfl (lv_at hl 0 rfl) ?_
  refine lv_iload_n hx hb dX2_storeFact_1 rfl (lv_at hl 1 rfl) ?_
  refine xcV (As := [.int (nI i)]) (rest := []) ⟨hx, hb, hml, hown, hts⟩ (c_X2_storeAt l D cy ad nS nB st bk gate nu (nI i) (by omega)) (cwV 1 hts gX2_storeFact_X2_storeAt rfl rfl rfl (by decide +kernel) ⟨Nat.le_of_ble_eq_true rfl, Nat.le_of_ble_eq_true rfl⟩) hK hP hD hS hA rfl rfl rfl (xE_all) rfl hl.1 rfl (Nat.le_of_ble_eq_true rfl) dX2_storeFact_2 ⟨Nat.le_of_ble_eq_true rfl, Nat.le_of_ble_eq_true rfl⟩ (fun _ H locs _ hP hD hS => ?_)
  have hP : va_P D vwCl (tw cy ad nS nB st bk gate nu) H := hP
  have hD : va_D A (tw cy ad nS nB st bk gate nu) := hD
  refine W.eq (g2 := F0 m 5 ls [va_rf (sAt ad nS (nI i))]) rfl ?_
  refine W.eq (g2 := F0 m 5 ls [.ref (ad (4 + i))]) (by show F0 m 5 ls (va_rf (sAt ad nS (nI i)) :: _) = _; rw [sAt_nI hi hcS]) ?_
  refine lv_astore_n (lv' := [(3, .ref (ad (4 + i))), (0, .ref (ad 0)), (1, .int (nI i)), (2, .int (nI k))]) hx hb dX2_storeFact_5 rfl hl (by decide) rfl (fun ls hl => ?_)
  refine lv_aload_n hx hb dX2_storeFact_6 rfl (lv_at hl 0 rfl) ?_
  refine lv_ifnonnull (tgt := 12) hx hb dX2_storeFact_7 (by decide) ?_
  refine lv_iload_n hx hb dX2_storeFact_12 rfl (lv_at hl 3 rfl) ?_
  have hcase : k = 0 ∨ k = 1 ∨ k = 2 ∨ k = 3 := by omega
  rcases hcase with rfl | rfl | rfl | rfl
  · refine lv_tableIn (off := 27) (tgt := 40) hx hb dX2_storeFact_13 (by decide) (by decide) (by rfl) (by decide) ?_
    refine lv_aload_n hx hb dX2_storeFact_40 rfl (lv_at hl 0 rfl) ?_
    refine va_get (D := D) (ci := 1) (v := .int (st i 0)) (C := RX1) (T := TX1) (N := 3) hx hb hts hinX1 hown hK.1 hP (4 + i) (tw_st hi) rfl 0 (by decide) (hts (.fieldLink RX2 117 "LoafMarks$Store" "flour" "I") (List.mem_of_getElem? (i := 1) rfl)) (fun _ h9 => h9) rfl dX2_storeFact_41 ?_
    exact xri () hx hb hr hlocks hS (Nat.le_of_ble_eq_true rfl) (Nat.le_of_ble_eq_true rfl) dX2_storeFact_44 hP hD rfl trivial
  · refine lv_tableIn (off := 32) (tgt := 45) hx hb dX2_storeFact_13 (by decide) (by decide) (by rfl) (by decide) ?_
    refine lv_aload_n hx hb dX2_storeFact_45 rfl (lv_at hl 0 rfl) ?_
    refine va_get (D := D) (ci := 1) (v := .int (st i 1)) (C := RX1) (T := TX1) (N := 3) hx hb hts hinX1 hown hK.1 hP (4 + i) (tw_st hi) rfl 1 (by decide) (hts (.fieldLink RX2 149 "LoafMarks$Store" "weevils" "I") (List.mem_of_getElem? (i := 2) rfl)) (fun _ h9 => h9) rfl dX2_storeFact_46 ?_
    exact xri () hx hb hr hlocks hS (Nat.le_of_ble_eq_true rfl) (Nat.le_of_ble_eq_true rfl) dX2_storeFact_49 hP hD rfl trivial
  · refine lv_tableIn (off := 37) (tgt := 50) hx hb dX2_storeFact_13 (by decide) (by decide) (by rfl) (by decide) ?_
    refine lv_aload_n hx hb dX2_storeFact_50 rfl (lv_at hl 1 rfl) ?_
    refine lv_iload_n hx hb dX2_storeFact_51 rfl (lv_at hl 2 rfl) ?_
    refine xcV (As := [.int (nI i)]) (rest := []) ⟨hx, hb, hml, hown, hts⟩ (c_X2_bakersOfStore l D cy ad nS nB st bk gate nu (nI i) (by omega)) (cwV 1 hts gX2_storeFact_X2_bakersOfStore rfl rfl rfl (by decide +kernel) ⟨Nat.le_of_ble_eq_true rfl, Nat.le_of_ble_eq_true rfl⟩) hK hP hD hS hA rfl rfl rfl (xE_all) rfl hl.1 rfl (Nat.le_of_ble_eq_true rfl) dX2_storeFact_52 ⟨Nat.le_of_ble_eq_true rfl, Nat.le_of_ble_eq_true rfl⟩ (fun _ H locs _ hP hD hS => ?_)
    have hP : va_P D vwCl (tw cy ad nS nB st bk gate nu) H := hP
    have hD : va_D A (tw cy ad nS nB st bk gate nu) := hD
    refine W.eq (g2 := F0 m 55 ls [.int (sm (fun j => if bk j 0 = (nI i) then 1 else 0) nB)]) rfl ?_
    exact xri () hx hb hr hlocks hS (Nat.le_of_ble_eq_true rfl) (Nat.le_of_ble_eq_true rfl) dX2_storeFact_55 hP hD rfl trivial
  · refine lv_tableOut (tgt := 56) hx hb dX2_storeFact_13 (by decide) (by decide) ?_
    refine lv_aload_n hx hb dX2_storeFact_56 rfl (lv_at hl 0 rfl) ?_
    refine va_get (D := D) (ci := 1) (v := .int (st i 2)) (C := RX1) (T := TX1) (N := 3) hx hb hts hinX1 hown hK.1 hP (4 + i) (tw_st hi) rfl 2 (by decide) (hts (.fieldLink RX2 158 "LoafMarks$Store" "eaten" "I") (List.mem_of_getElem? (i := 3) rfl)) (fun _ h9 => h9) rfl dX2_storeFact_57 ?_
    exact xri () hx hb hr hlocks hS (Nat.le_of_ble_eq_true rfl) (Nat.le_of_ble_eq_true rfl) dX2_storeFact_60 hP hD rfl trivial

set_option maxHeartbeats 4000000 in
set_option maxRecDepth 100000 in
/-- fact -/
theorem c_X2_fact (l : Launch) (D : va_G) (cy : Nat → ClassId) (ad : Nat → Nat) (nS nB : Nat) (st bk : Nat → Iu) (gate nu : Iu) (h k : Nat) (eh : nu 0 = nI h) (hh : h < 2 ^ 31) (hk : k < 10) (hcS : nS ≤ 4) (hcB : nB ≤ 6) : xM l D cy yX2_fact wsX2_fact ({ frames := 2, cells := 0, slots := 0, locals := 60 } : Room) [.ref (ad 0), .int (nI k)] (tw cy ad nS nB st bk gate nu) (fun _ : Unit => some (.int (tFact nS nB st bk nu h k))) (fun _ => True) (fun _ => tw cy ad nS nB st bk gate nu) := by
  refine xM.of cX2_fact 2 (some .int) RX2 (by decide +kernel) rfl rfl (Nat.le_of_ble_eq_true rfl) ?_
  intro p e s m below meth c A ls hx hb hr hts hown hlocks hml hin hK hA hP hD hS hl
  have hl : lv_has ls 2 [(0, .ref (ad 0)), (1, .int (nI k))] := hl
  have hinX2 : ∀ w ∈ wsX20, w ∈ wsX2_fact := fun _ h => List.mem_cons_of_mem _ (List.mem_append_left _ (List.mem_append_left _ (List.mem_append_right _ h)))
  refine lv_iload_n hx hb dX2_fact_0 rfl (lv_at hl 1 rfl) ?_
  have hcase : k = 0 ∨ k = 1 ∨ k = 2 ∨ k = 3 ∨ k = 4 ∨ k = 5 ∨ k = 6 ∨ k = 7 ∨ k = 8 ∨ k = 9 := by omega
  rcases hcase with rfl | rfl | rfl | rfl | rfl | rfl | rfl | rfl | rfl | rfl
  · refine lv_tableIn (off := 51) (tgt := 52) hx hb dX2_fact_1 (by decide) (by decide) (by rfl) (by decide) ?_
    refine lv_aload_n hx hb dX2_fact_52 rfl (lv_at hl 0 rfl) ?_
    refine va_get (D := D) (ci := 2) (v := .int (nu 0)) (C := RX2) (T := TX2) (N := 9) hx hb hts hinX2 hown hK.1 hP 0 rfl rfl 3 (by decide) (hts (.fieldLink RX2 31 "LoafMarks$Town" "hour" "I") (List.mem_of_getElem? (i := 1) rfl)) (fun _ h9 => h9) rfl dX2_fact_53 ?_
    exact xri () hx hb hr hlocks hS (Nat.le_of_ble_eq_true rfl) (Nat.le_of_ble_eq_true rfl) dX2_fact_56 hP hD rfl trivial
  · refine lv_tableIn (off := 56) (tgt := 57) hx hb dX2_fact_1 (by decide) (by decide) (by rfl) (by decide) ?_
    refine lv_aload_n hx hb dX2_fact_57 rfl (lv_at hl 0 rfl) ?_
    refine xcV (As := []) (rest := []) ⟨hx, hb, hml, hown, hts⟩ (c_X2_hourOfDay l D cy ad nS nB st bk gate nu h eh hh) (cwV 0 hts gX2_fact_X2_hourOfDay rfl rfl rfl (by decide +kernel) ⟨Nat.le_of_ble_eq_true rfl, Nat.le_of_ble_eq_true rfl⟩) hK hP hD hS hA rfl rfl rfl (xE_all) rfl hl.1 rfl (Nat.le_of_ble_eq_true rfl) dX2_fact_58 ⟨Nat.le_of_ble_eq_true rfl, Nat.le_of_ble_eq_true rfl⟩ (fun _ H locs _ hP hD hS => ?_)
    have hP : va_P D vwCl (tw cy ad nS nB st bk gate nu) H := hP
    have hD : va_D A (tw cy ad nS nB st bk gate nu) := hD
    refine W.eq (g2 := F0 m 61 ls [.int (nI (h % 24))]) rfl ?_
    exact xri () hx hb hr hlocks hS (Nat.le_of_ble_eq_true rfl) (Nat.le_of_ble_eq_true rfl) dX2_fact_61 hP hD rfl trivial
  · refine lv_tableIn (off := 61) (tgt := 62) hx hb dX2_fact_1 (by decide) (by decide) (by rfl) (by decide) ?_
    refine lv_aload_n hx hb dX2_fact_62 rfl (lv_at hl 0 rfl) ?_
    refine va_get (D := D) (ci := 2) (v := .int (nu 1)) (C := RX2) (T := TX2) (N := 9) hx hb hts hinX2 hown hK.1 hP 0 rfl rfl 4 (by decide) (hts (.fieldLink RX2 27 "LoafMarks$Town" "people" "I") (List.mem_of_getElem? (i := 2) rfl)) (fun _ h9 => h9) rfl dX2_fact_63 ?_
    exact xri () hx hb hr hlocks hS (Nat.le_of_ble_eq_true rfl) (Nat.le_of_ble_eq_true rfl) dX2_fact_66 hP hD rfl trivial
  · refine lv_tableIn (off := 66) (tgt := 67) hx hb dX2_fact_1 (by decide) (by decide) (by rfl) (by decide) ?_
    refine lv_aload_n hx hb dX2_fact_67 rfl (lv_at hl 0 rfl) ?_
    refine xcV (As := []) (rest := []) ⟨hx, hb, hml, hown, hts⟩ (c_X2_flourOfAll l D cy ad nS nB st bk gate nu (by omega)) (cwV 0 hts gX2_fact_X2_flourOfAll rfl rfl rfl (by decide +kernel) ⟨Nat.le_of_ble_eq_true rfl, Nat.le_of_ble_eq_true rfl⟩) hK hP hD hS hA rfl rfl rfl (xE_all) rfl hl.1 rfl (Nat.le_of_ble_eq_true rfl) dX2_fact_68 ⟨Nat.le_of_ble_eq_true rfl, Nat.le_of_ble_eq_true rfl⟩ (fun _ H locs _ hP hD hS => ?_)
    have hP : va_P D vwCl (tw cy ad nS nB st bk gate nu) H := hP
    have hD : va_D A (tw cy ad nS nB st bk gate nu) := hD
    refine W.eq (g2 := F0 m 71 ls [.int (sm (fun i => st i 0) nS)]) rfl ?_
    exact xri () hx hb hr hlocks hS (Nat.le_of_ble_eq_true rfl) (Nat.le_of_ble_eq_true rfl) dX2_fact_71 hP hD rfl trivial
  · refine lv_tableIn (off := 71) (tgt := 72) hx hb dX2_fact_1 (by decide) (by decide) (by rfl) (by decide) ?_
    refine lv_aload_n hx hb dX2_fact_72 rfl (lv_at hl 0 rfl) ?_
    refine xcV (As := []) (rest := []) ⟨hx, hb, hml, hown, hts⟩ (c_X2_loavesOfAll l D cy ad nS nB st bk gate nu (by omega)) (cwV 0 hts gX2_fact_X2_loavesOfAll rfl rfl rfl (by decide +kernel) ⟨Nat.le_of_ble_eq_true rfl, Nat.le_of_ble_eq_true rfl⟩) hK hP hD hS hA rfl rfl rfl (xE_all) rfl hl.1 rfl (Nat.le_of_ble_eq_true rfl) dX2_fact_73 ⟨Nat.le_of_ble_eq_true rfl, Nat.le_of_ble_eq_true rfl⟩ (fun _ H locs _ hP hD hS => ?_)
    have hP : va_P D vwCl (tw cy ad nS nB st bk gate nu) H := hP
    have hD : va_D A (tw cy ad nS nB st bk gate nu) := hD
    refine W.eq (g2 := F0 m 76 ls [.int (sm (fun i => bk i 5) nB)]) rfl ?_
    exact xri () hx hb hr hlocks hS (Nat.le_of_ble_eq_true rfl) (Nat.le_of_ble_eq_true rfl) dX2_fact_76 hP hD rfl trivial
  · refine lv_tableIn (off := 76) (tgt := 77) hx hb dX2_fact_1 (by decide) (by decide) (by rfl) (by decide) ?_
    refine lv_aload_n hx hb dX2_fact_77 rfl (lv_at hl 0 rfl) ?_
    refine va_get (D := D) (ci := 2) (v := .int (nu 2)) (C := RX2) (T := TX2) (N := 9) hx hb hts hinX2 hown hK.1 hP 0 rfl rfl 5 (by decide) (hts (.fieldLink RX2 34 "LoafMarks$Town" "bought" "I") (List.mem_of_getElem? (i := 3) rfl)) (fun _ h9 => h9) rfl dX2_fact_78 ?_
    exact xri () hx hb hr hlocks hS (Nat.le_of_ble_eq_true rfl) (Nat.le_of_ble_eq_true rfl) dX2_fact_81 hP hD rfl trivial
  · refine lv_tableIn (off := 81) (tgt := 82) hx hb dX2_fact_1 (by decide) (by decide) (by rfl) (by decide) ?_
    refine lv_aload_n hx hb dX2_fact_82 rfl (lv_at hl 0 rfl) ?_
    refine va_get (D := D) (ci := 2) (v := .int (nu 3)) (C := RX2) (T := TX2) (N := 9) hx hb hts hinX2 hown hK.1 hP 0 rfl rfl 6 (by decide) (hts (.fieldLink RX2 37 "LoafMarks$Town" "light" "I") (List.mem_of_getElem? (i := 4) rfl)) (fun _ h9 => h9) rfl dX2_fact_83 ?_
    exact xri () hx hb hr hlocks hS (Nat.le_of_ble_eq_true rfl) (Nat.le_of_ble_eq_true rfl) dX2_fact_86 hP hD rfl trivial
  · refine lv_tableIn (off := 86) (tgt := 87) hx hb dX2_fact_1 (by decide) (by decide) (by rfl) (by decide) ?_
    refine lv_aload_n hx hb dX2_fact_87 rfl (lv_at hl 0 rfl) ?_
    refine va_get (D := D) (ci := 2) (v := .int (nu 4)) (C := RX2) (T := TX2) (N := 9) hx hb hts hinX2 hown hK.1 hP 0 rfl rfl 7 (by decide) (hts (.fieldLink RX2 40 "LoafMarks$Town" "hungry" "I") (List.mem_of_getElem? (i := 5) rfl)) (fun _ h9 => h9) rfl dX2_fact_88 ?_
    exact xri () hx hb hr hlocks hS (Nat.le_of_ble_eq_true rfl) (Nat.le_of_ble_eq_true rfl) dX2_fact_91 hP hD rfl trivial
  · refine lv_tableIn (off := 91) (tgt := 92) hx hb dX2_fact_1 (by decide) (by decide) (by rfl) (by decide) ?_
    refine lv_aload_n hx hb dX2_fact_92 rfl (lv_at hl 0 rfl) ?_
    refine xcV (As := []) (rest := []) ⟨hx, hb, hml, hown, hts⟩ (c_X2_barredBakers l D cy ad nS nB st bk gate nu (by omega)) (cwV 0 hts gX2_fact_X2_barredBakers rfl rfl rfl (by decide +kernel) ⟨Nat.le_of_ble_eq_true rfl, Nat.le_of_ble_eq_true rfl⟩) hK hP hD hS hA rfl rfl rfl (xE_all) rfl hl.1 rfl (Nat.le_of_ble_eq_true rfl) dX2_fact_93 ⟨Nat.le_of_ble_eq_true rfl, Nat.le_of_ble_eq_true rfl⟩ (fun _ H locs _ hP hD hS => ?_)
    have hP : va_P D vwCl (tw cy ad nS nB st bk gate nu) H := hP
    have hD : va_D A (tw cy ad nS nB st bk gate nu) := hD
    refine W.eq (g2 := F0 m 96 ls [.int (sm (fun i => if bk i 7 = 0 then 0 else 1) nB)]) rfl ?_
    exact xri () hx hb hr hlocks hS (Nat.le_of_ble_eq_true rfl) (Nat.le_of_ble_eq_true rfl) dX2_fact_96 hP hD rfl trivial
  · refine lv_tableOut (tgt := 97) hx hb dX2_fact_1 (by decide) (by decide) ?_
    refine lv_aload_n hx hb dX2_fact_97 rfl (lv_at hl 0 rfl) ?_
    refine va_get (D := D) (ci := 2) (v := .int (nu 5)) (C := RX2) (T := TX2) (N := 9) hx hb hts hinX2 hown hK.1 hP 0 rfl rfl 8 (by decide) (hts (.fieldLink RX2 43 "LoafMarks$Town" "lost" "I") (List.mem_of_getElem? (i := 6) rfl)) (fun _ h9 => h9) rfl dX2_fact_98 ?_
    exact xri () hx hb hr hlocks hS (Nat.le_of_ble_eq_true rfl) (Nat.le_of_ble_eq_true rfl) dX2_fact_101 hP hD rfl trivial

set_option maxHeartbeats 4000000 in
set_option maxRecDepth 100000 in
/-- addStore -/
theorem c_X2_addStore (l : Launch) (D : va_G) (cy : Nat → ClassId) (ad : Nat → Nat) (nS nB : Nat) (st bk : Nat → Iu) (gate nu : Iu) (p0 p1 : Int32) (hroom : nS < 4) : xM l D cy yX2_addStore wsX2_addStore ({ frames := 2, cells := 1, slots := 3, locals := 40 } : Room) [.ref (ad 0), .int p0, .int p1] (tw cy ad nS nB st bk gate nu) (fun _ : Nat => some (.int (nI nS))) (fun _ => True) (fun q => tw cy (va_up ad (4 + nS) q) (nS + 1) nB (va_up st nS (newS p0 p1)) bk gate nu) := by
  refine xM.of cX2_addStore 4 (some .int) RX2 (by decide +kernel) rfl rfl (Nat.le_of_ble_eq_true rfl) ?_
  intro p e s m below meth c A ls hx hb hr hts hown hlocks hml hin hK hA hP hD hS hl
  have hl : lv_has ls 4 [(0, .ref (ad 0)), (1, .int p0), (2, .int p1)] := hl
  have hinX1 : ∀ w ∈ wsX10, w ∈ wsX2_addStore := fun _ h => List.mem_cons_of_mem _ (List.mem_append_right _ h)
  have hinX2 : ∀ w ∈ wsX20, w ∈ wsX2_addStore := fun _ h => List.mem_cons_of_mem _ (List.mem_append_left _ (List.mem_append_right _ h))
  refine lv_iconst (v := 0) hx hb dX2_addStore_0 (by decide) ?_
  refine lv_istore_n (lv' := [(3, .int 0), (0, .ref (ad 0)), (1, .int p0), (2, .int p1)]) hx hb dX2_addStore_1 rfl hl (by decide) rfl (fun ls hl => ?_)
  have loop : ∀ (n i : Nat)  (H : Heap) (locs : List Loc) (ls : Array Slot), i + n = 4 → (i ≤ nS) → va_P D vwCl (tw cy ad nS nB st bk gate nu) H → va_D A (tw cy ad nS nB st bk gate nu) → va_S A s.heap H locs → lv_has ls 4 [(0, .ref (ad 0)), (1, .int p0), (2, .int p1), (3, .int (nI i))] → W p l e ({ frames := 2, cells := 1, slots := 3, locals := 40 } : Room) s m ([.ref (ad 0), .int p0, .int p1] : List Value).toArray below meth c H locs 0 0 (MQ below (xQ D A (fun _ : Nat => some (.int (nI nS))) (fun _ => True) (fun q => tw cy (va_up ad (4 + nS) q) (nS + 1) nB (va_up st nS (newS p0 p1)) bk gate nu)) ([.ref (ad 0), .int p0, .int p1] : List Value).toArray s 1 3 A) (F0 m 2 ls []) := by
    intro n
    induction n with
    | zero =>
      intro i  H locs ls hns hinv hP hD hS hl
      have hii : i = 4 := by omega
      refine lv_iload_n hx hb dX2_addStore_2 rfl (lv_at hl 3 rfl) ?_
      refine lv_aload_n hx hb dX2_addStore_3 rfl (lv_at hl 0 rfl) ?_
      refine va_get (D := D) (ci := 2) (v := .ref (ad 2)) (C := RX2) (T := TX2) (N := 9) hx hb hts hinX2 hown hK.1 hP 0 rfl rfl 1 (by decide) (hts (.fieldLink RX2 17 "LoafMarks$Town" "stores" "[LLoafMarks$Store;") (List.mem_of_getElem? (i := 1) rfl)) (fun _ h9 => h9) rfl dX2_addStore_4 ?_
      refine va_alen hx hb hK.1 hP 2 1 rfl rfl (v := 4) rfl dX2_addStore_7 ?_
      refine lv_icmp_ge (tgt := 43) hx hb dX2_addStore_8 (by decide) (fun _ => ?_) (fun h => absurd (by rw [hii]; exact Int32.le_refl _) h)
      exact absurd hinv (by omega)
    | succ n ih =>
      intro i  H locs ls hns hinv hP hD hS hl
      have hlt : i < 4 := by omega
      refine lv_iload_n hx hb dX2_addStore_2 rfl (lv_at hl 3 rfl) ?_
      refine lv_aload_n hx hb dX2_addStore_3 rfl (lv_at hl 0 rfl) ?_
      refine va_get (D := D) (ci := 2) (v := .ref (ad 2)) (C := RX2) (T := TX2) (N := 9) hx hb hts hinX2 hown hK.1 hP 0 rfl rfl 1 (by decide) (hts (.fieldLink RX2 17 "LoafMarks$Town" "stores" "[LLoafMarks$Store;") (List.mem_of_getElem? (i := 1) rfl)) (fun _ h9 => h9) rfl dX2_addStore_4 ?_
      refine va_alen hx hb hK.1 hP 2 1 rfl rfl (v := 4) rfl dX2_addStore_7 ?_
      refine lv_icmp_ge (tgt := 43) hx hb dX2_addStore_8 (by decide) (fun h => absurd h (nI_ge (b := 4) hlt (by omega))) (fun _ => ?_)
      refine lv_aload_n hx hb dX2_addStore_11 rfl (lv_at hl 0 rfl) ?_
      refine va_get (D := D) (ci := 2) (v := .ref (ad 2)) (C := RX2) (T := TX2) (N := 9) hx hb hts hinX2 hown hK.1 hP 0 rfl rfl 1 (by decide) (hts (.fieldLink RX2 17 "LoafMarks$Town" "stores" "[LLoafMarks$Store;") (List.mem_of_getElem? (i := 1) rfl)) (fun _ h9 => h9) rfl dX2_addStore_12 ?_
      refine lv_iload_n hx hb dX2_addStore_15 rfl (lv_at hl 3 rfl) ?_
      refine xaldq hx hb hK hP 2 1 rfl rfl i rfl (by omega) (by decide) dX2_addStore_16 ?_
      rcases Nat.lt_or_ge i nS with hi | hi
      · refine W.eq (g2 := F0 m 17 ls [.ref (ad (4 + i))]) (by rw [rS_lt hi]) ?_
        refine lv_ifnonnull (tgt := 37) hx hb dX2_addStore_17 (by decide) ?_
        refine lv_iinc (v := (nI (i + 1))) (lv' := [(3, .int (nI (i + 1))), (0, .ref (ad 0)), (1, .int p0), (2, .int p1)]) hx hb dX2_addStore_37 hl (k := 3) rfl ((nI_1 i)) (by decide) rfl (fun ls hl => ?_)
        refine lv_goto (tgt := 2) hx hb dX2_addStore_40 (by decide) ?_
        exact ih (i + 1)  _ _ _ (by omega) (by omega) hP hD hS (lv_sub hl [1, 2, 3, 0] rfl)
      · refine W.eq (g2 := F0 m 17 ls [.null]) (by rw [rS_ge hi]) ?_
        refine lv_ifnonnullN hx hb dX2_addStore_17 ?_
        have hin0 : nS = i := by omega
        subst hin0
        refine lv_aload_n hx hb dX2_addStore_20 rfl (lv_at hl 0 rfl) ?_
        refine va_get (D := D) (ci := 2) (v := .ref (ad 2)) (C := RX2) (T := TX2) (N := 9) hx hb hts hinX2 hown hK.1 hP 0 rfl rfl 1 (by decide) (hts (.fieldLink RX2 17 "LoafMarks$Town" "stores" "[LLoafMarks$Store;") (List.mem_of_getElem? (i := 1) rfl)) (fun _ h9 => h9) rfl dX2_addStore_21 ?_
        refine lv_iload_n hx hb dX2_addStore_24 rfl (lv_at hl 3 rfl) ?_
        refine va_new (ci := 1) (fs := [.int 0, .int 0, .int 0]) (C := RX1) (T := TX1) (N := 3) hx hb hts hinX1 tyX1 tyX1_ok hown (hts (.classLink RX2 15 RX1) (List.mem_of_getElem? (i := 2) rfl)) (hts (.instantiable RX1 3) (List.mem_of_getElem? (i := 3) rfl)) (hts (.initialized RX1) (List.mem_of_getElem? (i := 4) rfl)) hK.1 hP hD hS hA rfl (fun j hj => by rcases (show j = 0 ∨ j = 1 ∨ j = 2 by omega) with rfl | rfl | rfl <;> rfl) (Nat.le_of_ble_eq_true rfl) (Nat.le_of_ble_eq_true rfl) dX2_addStore_25 (fun q25 H hP hD hS => ?_)
        have hP : va_P D vwCl ((tw cy ad nS nB st bk gate nu) ++ [(q25, cSt (fun _ => 0))]) H := hP
        have hD : va_D A ((tw cy ad nS nB st bk gate nu) ++ [(q25, cSt (fun _ => 0))]) := hD
        refine lv_dup hx hb dX2_addStore_28 rfl ?_
        refine lv_iload_n hx hb dX2_addStore_29 rfl (lv_at hl 1 rfl) ?_
        refine lv_iload_n hx hb dX2_addStore_30 rfl (lv_at hl 2 rfl) ?_
        refine xcI (As := [.int p0, .int p1]) (rest := [.ref q25, .int (nI nS), .ref (ad 2)]) ⟨hx, hb, hml, hown, hts⟩ (c_X1_init l D cy q25 p0 p1) (cwI 2 hts gX2_addStore_X1_init rfl rfl rfl (hts (.initialized RX1) (List.mem_of_getElem? (i := 4) rfl)) (hts (.methodLink RX2 61 yX1_init) (List.mem_of_getElem? (i := 5) rfl)) (hts (.instanceMethod yX1_init) (List.mem_of_getElem? (i := 6) rfl)) rfl (by decide +kernel) ⟨Nat.le_of_ble_eq_true rfl, Nat.le_of_ble_eq_true rfl⟩) hK hP hD hS hA (xE_r) rfl hl.1 rfl (Nat.le_of_ble_eq_true rfl) dX2_addStore_31 ⟨Nat.le_of_ble_eq_true rfl, Nat.le_of_ble_eq_true rfl⟩ (fun _ H locs _ hP hD hS => ?_)
        have hP : va_P D vwCl ((tw cy ad nS nB st bk gate nu) ++ [(q25, cSt (newS p0 p1))]) H := hP
        have hD : va_D A ((tw cy ad nS nB st bk gate nu) ++ [(q25, cSt (newS p0 p1))]) := hD
        refine W.eq (g2 := F0 m 34 ls [.ref q25, .int (nI nS), .ref (ad 2)]) rfl ?_
        refine xastq hx hb hK hP hD hS 2 1 (tw cy ad nS nB st bk gate nu).length 1 rfl rfl last_at rfl nS rfl (by omega) (by decide) dX2_addStore_34 (fun H locs hP hD hS => ?_)
        have hP := xP_perm (tw_push_st hroom) hP
        have hD := xD_perm (tw_push_st hroom) hD
        refine lv_iload_n hx hb dX2_addStore_35 rfl (lv_at hl 3 rfl) ?_
        exact xri q25 hx hb hr hlocks hS (Nat.le_of_ble_eq_true rfl) (Nat.le_of_ble_eq_true rfl) dX2_addStore_36 hP hD rfl trivial
  exact loop 4 0  _ _ _ (by omega) (Nat.zero_le _) hP hD hS (lv_sub hl [1, 2, 3, 0] rfl)

set_option maxHeartbeats 4000000 in
set_option maxRecDepth 100000 in
/-- addStore, none free -/
theorem c_X2_addStore_full (l : Launch) (D : va_G) (cy : Nat → ClassId) (ad : Nat → Nat) (nS nB : Nat) (st bk : Nat → Iu) (gate nu : Iu) (p0 p1 : Int32) (hfull : nS = 4) : xM l D cy yX2_addStore wsX2_addStore ({ frames := 2, cells := 1, slots := 3, locals := 40 } : Room) [.ref (ad 0), .int p0, .int p1] (tw cy ad nS nB st bk gate nu) (fun _ : Unit => some (.int (-1))) (fun _ => True) (fun _ => tw cy ad nS nB st bk gate nu) := by
  refine xM.of cX2_addStore 4 (some .int) RX2 (by decide +kernel) rfl rfl (Nat.le_of_ble_eq_true rfl) ?_
  intro p e s m below meth c A ls hx hb hr hts hown hlocks hml hin hK hA hP hD hS hl
  have hl : lv_has ls 4 [(0, .ref (ad 0)), (1, .int p0), (2, .int p1)] := hl
  have hinX2 : ∀ w ∈ wsX20, w ∈ wsX2_addStore := fun _ h => List.mem_cons_of_mem _ (List.mem_append_left _ (List.mem_append_right _ h))
  refine lv_iconst (v := 0) hx hb dX2_addStore_0 (by decide) ?_
  refine lv_istore_n (lv' := [(3, .int 0), (0, .ref (ad 0)), (1, .int p0), (2, .int p1)]) hx hb dX2_addStore_1 rfl hl (by decide) rfl (fun ls hl => ?_)
  have loop : ∀ (n i : Nat)  (H : Heap) (locs : List Loc) (ls : Array Slot), i + n = 4 → (i ≤ nS) → va_P D vwCl (tw cy ad nS nB st bk gate nu) H → va_D A (tw cy ad nS nB st bk gate nu) → va_S A s.heap H locs → lv_has ls 4 [(0, .ref (ad 0)), (1, .int p0), (2, .int p1), (3, .int (nI i))] → W p l e ({ frames := 2, cells := 1, slots := 3, locals := 40 } : Room) s m ([.ref (ad 0), .int p0, .int p1] : List Value).toArray below meth c H locs 0 0 (MQ below (xQ D A (fun _ : Unit => some (.int (-1))) (fun _ => True) (fun _ => tw cy ad nS nB st bk gate nu)) ([.ref (ad 0), .int p0, .int p1] : List Value).toArray s 1 3 A) (F0 m 2 ls []) := by
    intro n
    induction n with
    | zero =>
      intro i  H locs ls hns hinv hP hD hS hl
      have hii : i = 4 := by omega
      refine lv_iload_n hx hb dX2_addStore_2 rfl (lv_at hl 3 rfl) ?_
      refine lv_aload_n hx hb dX2_addStore_3 rfl (lv_at hl 0 rfl) ?_
      refine va_get (D := D) (ci := 2) (v := .ref (ad 2)) (C := RX2) (T := TX2) (N := 9) hx hb hts hinX2 hown hK.1 hP 0 rfl rfl 1 (by decide) (hts (.fieldLink RX2 17 "LoafMarks$Town" "stores" "[LLoafMarks$Store;") (List.mem_of_getElem? (i := 1) rfl)) (fun _ h9 => h9) rfl dX2_addStore_4 ?_
      refine va_alen hx hb hK.1 hP 2 1 rfl rfl (v := 4) rfl dX2_addStore_7 ?_
      refine lv_icmp_ge (tgt := 43) hx hb dX2_addStore_8 (by decide) (fun _ => ?_) (fun h => absurd (by rw [hii]; exact Int32.le_refl _) h)
      refine lv_iconst (v := (-1)) hx hb dX2_addStore_43 (by decide) ?_
      exact xri () hx hb hr hlocks hS (Nat.le_of_ble_eq_true rfl) (Nat.le_of_ble_eq_true rfl) dX2_addStore_44 hP hD rfl trivial
    | succ n ih =>
      intro i  H locs ls hns hinv hP hD hS hl
      have hlt : i < 4 := by omega
      refine lv_iload_n hx hb dX2_addStore_2 rfl (lv_at hl 3 rfl) ?_
      refine lv_aload_n hx hb dX2_addStore_3 rfl (lv_at hl 0 rfl) ?_
      refine va_get (D := D) (ci := 2) (v := .ref (ad 2)) (C := RX2) (T := TX2) (N := 9) hx hb hts hinX2 hown hK.1 hP 0 rfl rfl 1 (by decide) (hts (.fieldLink RX2 17 "LoafMarks$Town" "stores" "[LLoafMarks$Store;") (List.mem_of_getElem? (i := 1) rfl)) (fun _ h9 => h9) rfl dX2_addStore_4 ?_
      refine va_alen hx hb hK.1 hP 2 1 rfl rfl (v := 4) rfl dX2_addStore_7 ?_
      refine lv_icmp_ge (tgt := 43) hx hb dX2_addStore_8 (by decide) (fun h => absurd h (nI_ge (b := 4) hlt (by omega))) (fun _ => ?_)
      refine lv_aload_n hx hb dX2_addStore_11 rfl (lv_at hl 0 rfl) ?_
      refine va_get (D := D) (ci := 2) (v := .ref (ad 2)) (C := RX2) (T := TX2) (N := 9) hx hb hts hinX2 hown hK.1 hP 0 rfl rfl 1 (by decide) (hts (.fieldLink RX2 17 "LoafMarks$Town" "stores" "[LLoafMarks$Store;") (List.mem_of_getElem? (i := 1) rfl)) (fun _ h9 => h9) rfl dX2_addStore_12 ?_
      refine lv_iload_n hx hb dX2_addStore_15 rfl (lv_at hl 3 rfl) ?_
      refine xaldq hx hb hK hP 2 1 rfl rfl i rfl (by omega) (by decide) dX2_addStore_16 ?_
      rcases Nat.lt_or_ge i nS with hi | hi
      · refine W.eq (g2 := F0 m 17 ls [.ref (ad (4 + i))]) (by rw [rS_lt hi]) ?_
        refine lv_ifnonnull (tgt := 37) hx hb dX2_addStore_17 (by decide) ?_
        refine lv_iinc (v := (nI (i + 1))) (lv' := [(3, .int (nI (i + 1))), (0, .ref (ad 0)), (1, .int p0), (2, .int p1)]) hx hb dX2_addStore_37 hl (k := 3) rfl ((nI_1 i)) (by decide) rfl (fun ls hl => ?_)
        refine lv_goto (tgt := 2) hx hb dX2_addStore_40 (by decide) ?_
        exact ih (i + 1)  _ _ _ (by omega) (by omega) hP hD hS (lv_sub hl [1, 2, 3, 0] rfl)
      · refine W.eq (g2 := F0 m 17 ls [.null]) (by rw [rS_ge hi]) ?_
        refine lv_ifnonnullN hx hb dX2_addStore_17 ?_
        exact absurd hi (by omega)
  exact loop 4 0  _ _ _ (by omega) (Nat.zero_le _) hP hD hS (lv_sub hl [1, 2, 3, 0] rfl)

set_option maxHeartbeats 4000000 in
set_option maxRecDepth 100000 in
/-- addBaker -/
theorem c_X2_addBaker (l : Launch) (D : va_G) (cy : Nat → ClassId) (ad : Nat → Nat) (nS nB : Nat) (st bk : Nat → Iu) (gate nu : Iu) (p0 p1 p2 p3 : Int32) (hroom : nB < 6) (hcS : nS ≤ 4) : xM l D cy yX2_addBaker wsX2_addBaker ({ frames := 2, cells := 1, slots := 8, locals := 40 } : Room) [.ref (ad 0), .int p0, .int p1, .int p2, .int p3] (tw cy ad nS nB st bk gate nu) (fun _ : Nat => some (.int (nI nB))) (fun _ => True) (fun q => tw cy (va_up ad (8 + nB) q) nS (nB + 1) st (va_up bk nB (newB p0 p1 p2 p3)) gate nu) := by
  refine xM.of cX2_addBaker 6 (some .int) RX2 (by decide +kernel) rfl rfl (Nat.le_of_ble_eq_true rfl) ?_
  intro p e s m below meth c A ls hx hb hr hts hown hlocks hml hin hK hA hP hD hS hl
  have hl : lv_has ls 6 [(0, .ref (ad 0)), (1, .int p0), (2, .int p1), (3, .int p2), (4, .int p3)] := hl
  have hinX0 : ∀ w ∈ wsX00, w ∈ wsX2_addBaker := fun _ h => List.mem_cons_of_mem _ (List.mem_append_right _ h)
  have hinX2 : ∀ w ∈ wsX20, w ∈ wsX2_addBaker := fun _ h => List.mem_cons_of_mem _ (List.mem_append_left _ (List.mem_append_right _ h))
  refine lv_iconst (v := 0) hx hb dX2_addBaker_0 (by decide) ?_
  refine lv_istore (lv' := [(5, .int 0), (0, .ref (ad 0)), (1, .int p0), (2, .int p1), (3, .int p2), (4, .int p3)]) hx hb dX2_addBaker_1 hl (by decide) rfl (fun ls hl => ?_)
  have loop : ∀ (n i : Nat)  (H : Heap) (locs : List Loc) (ls : Array Slot), i + n = 6 → (i ≤ nB) → va_P D vwCl (tw cy ad nS nB st bk gate nu) H → va_D A (tw cy ad nS nB st bk gate nu) → va_S A s.heap H locs → lv_has ls 6 [(0, .ref (ad 0)), (1, .int p0), (2, .int p1), (3, .int p2), (4, .int p3), (5, .int (nI i))] → W p l e ({ frames := 2, cells := 1, slots := 8, locals := 40 } : Room) s m ([.ref (ad 0), .int p0, .int p1, .int p2, .int p3] : List Value).toArray below meth c H locs 0 0 (MQ below (xQ D A (fun _ : Nat => some (.int (nI nB))) (fun _ => True) (fun q => tw cy (va_up ad (8 + nB) q) nS (nB + 1) st (va_up bk nB (newB p0 p1 p2 p3)) gate nu)) ([.ref (ad 0), .int p0, .int p1, .int p2, .int p3] : List Value).toArray s 1 8 A) (F0 m 3 ls []) := by
    intro n
    induction n with
    | zero =>
      intro i  H locs ls hns hinv hP hD hS hl
      have hii : i = 6 := by omega
      refine lv_iload hx hb dX2_addBaker_3 (lv_at hl 5 rfl) ?_
      refine lv_aload_n hx hb dX2_addBaker_5 rfl (lv_at hl 0 rfl) ?_
      refine va_get (D := D) (ci := 2) (v := .ref (ad 3)) (C := RX2) (T := TX2) (N := 9) hx hb hts hinX2 hown hK.1 hP 0 rfl rfl 2 (by decide) (hts (.fieldLink RX2 23 "LoafMarks$Town" "bakers" "[LLoafMarks$Baker;") (List.mem_of_getElem? (i := 1) rfl)) (fun _ h9 => h9) rfl dX2_addBaker_6 ?_
      refine va_alen hx hb hK.1 hP 3 2 rfl rfl (v := 6) rfl dX2_addBaker_9 ?_
      refine lv_icmp_ge (tgt := 51) hx hb dX2_addBaker_10 (by decide) (fun _ => ?_) (fun h => absurd (by rw [hii]; exact Int32.le_refl _) h)
      exact absurd hinv (by omega)
    | succ n ih =>
      intro i  H locs ls hns hinv hP hD hS hl
      have hlt : i < 6 := by omega
      refine lv_iload hx hb dX2_addBaker_3 (lv_at hl 5 rfl) ?_
      refine lv_aload_n hx hb dX2_addBaker_5 rfl (lv_at hl 0 rfl) ?_
      refine va_get (D := D) (ci := 2) (v := .ref (ad 3)) (C := RX2) (T := TX2) (N := 9) hx hb hts hinX2 hown hK.1 hP 0 rfl rfl 2 (by decide) (hts (.fieldLink RX2 23 "LoafMarks$Town" "bakers" "[LLoafMarks$Baker;") (List.mem_of_getElem? (i := 1) rfl)) (fun _ h9 => h9) rfl dX2_addBaker_6 ?_
      refine va_alen hx hb hK.1 hP 3 2 rfl rfl (v := 6) rfl dX2_addBaker_9 ?_
      refine lv_icmp_ge (tgt := 51) hx hb dX2_addBaker_10 (by decide) (fun h => absurd h (nI_ge (b := 6) hlt (by omega))) (fun _ => ?_)
      refine lv_aload_n hx hb dX2_addBaker_13 rfl (lv_at hl 0 rfl) ?_
      refine va_get (D := D) (ci := 2) (v := .ref (ad 3)) (C := RX2) (T := TX2) (N := 9) hx hb hts hinX2 hown hK.1 hP 0 rfl rfl 2 (by decide) (hts (.fieldLink RX2 23 "LoafMarks$Town" "bakers" "[LLoafMarks$Baker;") (List.mem_of_getElem? (i := 1) rfl)) (fun _ h9 => h9) rfl dX2_addBaker_14 ?_
      refine lv_iload hx hb dX2_addBaker_17 (lv_at hl 5 rfl) ?_
      refine xaldq hx hb hK hP 3 2 rfl rfl i rfl (by omega) (by decide) dX2_addBaker_19 ?_
      rcases Nat.lt_or_ge i nB with hi | hi
      · refine W.eq (g2 := F0 m 20 ls [.ref (ad (8 + i))]) (by rw [rB_lt hi]) ?_
        refine lv_ifnonnull (tgt := 45) hx hb dX2_addBaker_20 (by decide) ?_
        refine lv_iinc (v := (nI (i + 1))) (lv' := [(5, .int (nI (i + 1))), (0, .ref (ad 0)), (1, .int p0), (2, .int p1), (3, .int p2), (4, .int p3)]) hx hb dX2_addBaker_45 hl (k := 5) rfl ((nI_1 i)) (by decide) rfl (fun ls hl => ?_)
        refine lv_goto (tgt := 3) hx hb dX2_addBaker_48 (by decide) ?_
        exact ih (i + 1)  _ _ _ (by omega) (by omega) hP hD hS (lv_sub hl [1, 2, 3, 4, 5, 0] rfl)
      · refine W.eq (g2 := F0 m 20 ls [.null]) (by rw [rB_ge hi]) ?_
        refine lv_ifnonnullN hx hb dX2_addBaker_20 ?_
        have hin0 : nB = i := by omega
        subst hin0
        refine lv_aload_n hx hb dX2_addBaker_23 rfl (lv_at hl 0 rfl) ?_
        refine va_get (D := D) (ci := 2) (v := .ref (ad 3)) (C := RX2) (T := TX2) (N := 9) hx hb hts hinX2 hown hK.1 hP 0 rfl rfl 2 (by decide) (hts (.fieldLink RX2 23 "LoafMarks$Town" "bakers" "[LLoafMarks$Baker;") (List.mem_of_getElem? (i := 1) rfl)) (fun _ h9 => h9) rfl dX2_addBaker_24 ?_
        refine lv_iload hx hb dX2_addBaker_27 (lv_at hl 5 rfl) ?_
        refine va_new (ci := 0) (fs := [.int 0, .int 0, .int 0, .int 0, .int 0, .int 0, .int 0, .int 0]) (C := RX0) (T := TX0) (N := 8) hx hb hts hinX0 tyX0 tyX0_ok hown (hts (.classLink RX2 21 RX0) (List.mem_of_getElem? (i := 2) rfl)) (hts (.instantiable RX0 8) (List.mem_of_getElem? (i := 3) rfl)) (hts (.initialized RX0) (List.mem_of_getElem? (i := 4) rfl)) hK.1 hP hD hS hA rfl (fun j hj => by rcases (show j = 0 ∨ j = 1 ∨ j = 2 ∨ j = 3 ∨ j = 4 ∨ j = 5 ∨ j = 6 ∨ j = 7 by omega) with rfl | rfl | rfl | rfl | rfl | rfl | rfl | rfl <;> rfl) (Nat.le_of_ble_eq_true rfl) (Nat.le_of_ble_eq_true rfl) dX2_addBaker_29 (fun q29 H hP hD hS => ?_)
        have hP : va_P D vwCl ((tw cy ad nS nB st bk gate nu) ++ [(q29, cBk (fun _ => 0))]) H := hP
        have hD : va_D A ((tw cy ad nS nB st bk gate nu) ++ [(q29, cBk (fun _ => 0))]) := hD
        refine lv_dup hx hb dX2_addBaker_32 rfl ?_
        refine lv_iload_n hx hb dX2_addBaker_33 rfl (lv_at hl 1 rfl) ?_
        refine lv_iload_n hx hb dX2_addBaker_34 rfl (lv_at hl 2 rfl) ?_
        refine lv_iload_n hx hb dX2_addBaker_35 rfl (lv_at hl 3 rfl) ?_
        refine lv_iload hx hb dX2_addBaker_36 (lv_at hl 4 rfl) ?_
        refine xcI (As := [.int p0, .int p1, .int p2, .int p3]) (rest := [.ref q29, .int (nI nB), .ref (ad 3)]) ⟨hx, hb, hml, hown, hts⟩ (c_X0_init l D cy q29 p0 p1 p2 p3) (cwI 4 hts gX2_addBaker_X0_init rfl rfl rfl (hts (.initialized RX0) (List.mem_of_getElem? (i := 4) rfl)) (hts (.methodLink RX2 72 yX0_init) (List.mem_of_getElem? (i := 5) rfl)) (hts (.instanceMethod yX0_init) (List.mem_of_getElem? (i := 6) rfl)) rfl (by decide +kernel) ⟨Nat.le_of_ble_eq_true rfl, Nat.le_of_ble_eq_true rfl⟩) hK hP hD hS hA (xE_r) rfl hl.1 rfl (Nat.le_of_ble_eq_true rfl) dX2_addBaker_38 ⟨Nat.le_of_ble_eq_true rfl, Nat.le_of_ble_eq_true rfl⟩ (fun _ H locs _ hP hD hS => ?_)
        have hP : va_P D vwCl ((tw cy ad nS nB st bk gate nu) ++ [(q29, cBk (newB p0 p1 p2 p3))]) H := hP
        have hD : va_D A ((tw cy ad nS nB st bk gate nu) ++ [(q29, cBk (newB p0 p1 p2 p3))]) := hD
        refine W.eq (g2 := F0 m 41 ls [.ref q29, .int (nI nB), .ref (ad 3)]) rfl ?_
        refine xastq hx hb hK hP hD hS 3 2 (tw cy ad nS nB st bk gate nu).length 0 rfl rfl last_at rfl nB rfl (by omega) (by decide) dX2_addBaker_41 (fun H locs hP hD hS => ?_)
        have hP := xP_perm (tw_push_bk hcS) hP
        have hD := xD_perm (tw_push_bk hcS) hD
        refine lv_iload hx hb dX2_addBaker_42 (lv_at hl 5 rfl) ?_
        exact xri q29 hx hb hr hlocks hS (Nat.le_of_ble_eq_true rfl) (Nat.le_of_ble_eq_true rfl) dX2_addBaker_44 hP hD rfl trivial
  exact loop 6 0  _ _ _ (by omega) (Nat.zero_le _) hP hD hS (lv_sub hl [1, 2, 3, 4, 5, 0] rfl)

set_option maxHeartbeats 4000000 in
set_option maxRecDepth 100000 in
/-- addBaker, none free -/
theorem c_X2_addBaker_full (l : Launch) (D : va_G) (cy : Nat → ClassId) (ad : Nat → Nat) (nS nB : Nat) (st bk : Nat → Iu) (gate nu : Iu) (p0 p1 p2 p3 : Int32) (hfull : nB = 6) : xM l D cy yX2_addBaker wsX2_addBaker ({ frames := 2, cells := 1, slots := 8, locals := 40 } : Room) [.ref (ad 0), .int p0, .int p1, .int p2, .int p3] (tw cy ad nS nB st bk gate nu) (fun _ : Unit => some (.int (-1))) (fun _ => True) (fun _ => tw cy ad nS nB st bk gate nu) := by
  refine xM.of cX2_addBaker 6 (some .int) RX2 (by decide +kernel) rfl rfl (Nat.le_of_ble_eq_true rfl) ?_
  intro p e s m below meth c A ls hx hb hr hts hown hlocks hml hin hK hA hP hD hS hl
  have hl : lv_has ls 6 [(0, .ref (ad 0)), (1, .int p0), (2, .int p1), (3, .int p2), (4, .int p3)] := hl
  have hinX2 : ∀ w ∈ wsX20, w ∈ wsX2_addBaker := fun _ h => List.mem_cons_of_mem _ (List.mem_append_left _ (List.mem_append_right _ h))
  refine lv_iconst (v := 0) hx hb dX2_addBaker_0 (by decide) ?_
  refine lv_istore (lv' := [(5, .int 0), (0, .ref (ad 0)), (1, .int p0), (2, .int p1), (3, .int p2), (4, .int p3)]) hx hb dX2_addBaker_1 hl (by decide) rfl (fun ls hl => ?_)
  have loop : ∀ (n i : Nat)  (H : Heap) (locs : List Loc) (ls : Array Slot), i + n = 6 → (i ≤ nB) → va_P D vwCl (tw cy ad nS nB st bk gate nu) H → va_D A (tw cy ad nS nB st bk gate nu) → va_S A s.heap H locs → lv_has ls 6 [(0, .ref (ad 0)), (1, .int p0), (2, .int p1), (3, .int p2), (4, .int p3), (5, .int (nI i))] → W p l e ({ frames := 2, cells := 1, slots := 8, locals := 40 } : Room) s m ([.ref (ad 0), .int p0, .int p1, .int p2, .int p3] : List Value).toArray below meth c H locs 0 0 (MQ below (xQ D A (fun _ : Unit => some (.int (-1))) (fun _ => True) (fun _ => tw cy ad nS nB st bk gate nu)) ([.ref (ad 0), .int p0, .int p1, .int p2, .int p3] : List Value).toArray s 1 8 A) (F0 m 3 ls []) := by
    intro n
    induction n with
    | zero =>
      intro i  H locs ls hns hinv hP hD hS hl
      have hii : i = 6 := by omega
      refine lv_iload hx hb dX2_addBaker_3 (lv_at hl 5 rfl) ?_
      refine lv_aload_n hx hb dX2_addBaker_5 rfl (lv_at hl 0 rfl) ?_
      refine va_get (D := D) (ci := 2) (v := .ref (ad 3)) (C := RX2) (T := TX2) (N := 9) hx hb hts hinX2 hown hK.1 hP 0 rfl rfl 2 (by decide) (hts (.fieldLink RX2 23 "LoafMarks$Town" "bakers" "[LLoafMarks$Baker;") (List.mem_of_getElem? (i := 1) rfl)) (fun _ h9 => h9) rfl dX2_addBaker_6 ?_
      refine va_alen hx hb hK.1 hP 3 2 rfl rfl (v := 6) rfl dX2_addBaker_9 ?_
      refine lv_icmp_ge (tgt := 51) hx hb dX2_addBaker_10 (by decide) (fun _ => ?_) (fun h => absurd (by rw [hii]; exact Int32.le_refl _) h)
      refine lv_iconst (v := (-1)) hx hb dX2_addBaker_51 (by decide) ?_
      exact xri () hx hb hr hlocks hS (Nat.le_of_ble_eq_true rfl) (Nat.le_of_ble_eq_true rfl) dX2_addBaker_52 hP hD rfl trivial
    | succ n ih =>
      intro i  H locs ls hns hinv hP hD hS hl
      have hlt : i < 6 := by omega
      refine lv_iload hx hb dX2_addBaker_3 (lv_at hl 5 rfl) ?_
      refine lv_aload_n hx hb dX2_addBaker_5 rfl (lv_at hl 0 rfl) ?_
      refine va_get (D := D) (ci := 2) (v := .ref (ad 3)) (C := RX2) (T := TX2) (N := 9) hx hb hts hinX2 hown hK.1 hP 0 rfl rfl 2 (by decide) (hts (.fieldLink RX2 23 "LoafMarks$Town" "bakers" "[LLoafMarks$Baker;") (List.mem_of_getElem? (i := 1) rfl)) (fun _ h9 => h9) rfl dX2_addBaker_6 ?_
      refine va_alen hx hb hK.1 hP 3 2 rfl rfl (v := 6) rfl dX2_addBaker_9 ?_
      refine lv_icmp_ge (tgt := 51) hx hb dX2_addBaker_10 (by decide) (fun h => absurd h (nI_ge (b := 6) hlt (by omega))) (fun _ => ?_)
      refine lv_aload_n hx hb dX2_addBaker_13 rfl (lv_at hl 0 rfl) ?_
      refine va_get (D := D) (ci := 2) (v := .ref (ad 3)) (C := RX2) (T := TX2) (N := 9) hx hb hts hinX2 hown hK.1 hP 0 rfl rfl 2 (by decide) (hts (.fieldLink RX2 23 "LoafMarks$Town" "bakers" "[LLoafMarks$Baker;") (List.mem_of_getElem? (i := 1) rfl)) (fun _ h9 => h9) rfl dX2_addBaker_14 ?_
      refine lv_iload hx hb dX2_addBaker_17 (lv_at hl 5 rfl) ?_
      refine xaldq hx hb hK hP 3 2 rfl rfl i rfl (by omega) (by decide) dX2_addBaker_19 ?_
      rcases Nat.lt_or_ge i nB with hi | hi
      · refine W.eq (g2 := F0 m 20 ls [.ref (ad (8 + i))]) (by rw [rB_lt hi]) ?_
        refine lv_ifnonnull (tgt := 45) hx hb dX2_addBaker_20 (by decide) ?_
        refine lv_iinc (v := (nI (i + 1))) (lv' := [(5, .int (nI (i + 1))), (0, .ref (ad 0)), (1, .int p0), (2, .int p1), (3, .int p2), (4, .int p3)]) hx hb dX2_addBaker_45 hl (k := 5) rfl ((nI_1 i)) (by decide) rfl (fun ls hl => ?_)
        refine lv_goto (tgt := 3) hx hb dX2_addBaker_48 (by decide) ?_
        exact ih (i + 1)  _ _ _ (by omega) (by omega) hP hD hS (lv_sub hl [1, 2, 3, 4, 5, 0] rfl)
      · refine W.eq (g2 := F0 m 20 ls [.null]) (by rw [rB_ge hi]) ?_
        refine lv_ifnonnullN hx hb dX2_addBaker_20 ?_
        exact absurd hi (by omega)
  exact loop 6 0  _ _ _ (by omega) (Nat.zero_le _) hP hD hS (lv_sub hl [1, 2, 3, 4, 5, 0] rfl)
end
section
/-! ===== the town: copies (laid by gen15.py) ===== -/
theorem sAt_ge {ad : Nat → Nat} {n i : Nat} (h : n ≤ i) (hi : i < 2 ^ 31) : va_rf (sAt ad n (nI i)) = .null := by
  unfold sAt
  rw [if_neg (nI_pos hi), nI_clamp hi]
  exact rS_ge h
theorem bAt_ge {ad : Nat → Nat} {n i : Nat} (h : n ≤ i) (hi : i < 2 ^ 31) : va_rf (bAt ad n (nI i)) = .null := by
  unfold bAt
  rw [if_neg (nI_pos hi), nI_clamp hi]
  exact rB_ge h
theorem rS_null {ad : Nat → Nat} {n i : Nat} (h : n ≤ i) : va_up (rS ad n) i none = rS ad n := by
  funext k
  unfold va_up
  split
  · rename_i e; subst e; unfold rS; rw [if_neg (by omega)]
  · rfl
theorem rB_null {ad : Nat → Nat} {n i : Nat} (h : n ≤ i) : va_up (rB ad n) i none = rB ad n := by
  funext k
  unfold va_up
  split
  · rename_i e; subst e; unfold rB; rw [if_neg (by omega)]
  · rfl
theorem rS_same {ad : Nat → Nat} {n i : Nat} (h : i < n) : va_up (rS ad n) i (some (ad (4 + i))) = rS ad n := by
  funext k
  unfold va_up
  split
  · rename_i e; subst e; unfold rS; rw [if_pos h]
  · rfl
theorem rB_same {ad : Nat → Nat} {n i : Nat} (h : i < n) : va_up (rB ad n) i (some (ad (8 + i))) = rB ad n := by
  funext k
  unfold va_up
  split
  · rename_i e; subst e; unfold rB; rw [if_pos h]
  · rfl
section CPY
variable {cy : Nat → ClassId} {ad ao : Nat → Nat} {nS nB mS mB : Nat} {st bk so bo : Nat → Iu} {gate nu go no : Iu}
theorem tw_len : (tw cy ad nS nB st bk gate nu).length = 4 + nS + nB := by unfold tw; simp [zS_len, zB_len]; omega
theorem at_l {ws wt : va_W} {k : Nat} {q : Nat × va_E} (h : ws[k]? = some q) : (ws ++ wt)[k]? = some q := by
  rw [List.getElem?_append_left (List.getElem?_eq_some_iff.mp h).1]; exact h
theorem at_r {ws wt : va_W} {k : Nat} {q : Nat × va_E} (h : wt[k]? = some q) : (ws ++ wt)[ws.length + k]? = some q := by
  rw [List.getElem?_append_right (by omega), Nat.add_sub_cancel_left]; exact h
theorem set_l {ws wt : va_W} {k : Nat} {q x : Nat × va_E} (h : ws[k]? = some q) : (ws ++ wt).set k x = ws.set k x ++ wt := List.set_append_left k x (List.getElem?_eq_some_iff.mp h).1
theorem xE_cst {i : Nat} (h : i < nS) (hm : i < mS) : xE (tw cy ad nS nB st bk gate nu ++ tw cy ao mS mB so bo go no) [(ad (4 + i), cSt (st i)), (ao (4 + i), cSt (so i))] (fun _ : Unit => [(ad (4 + i), cSt (so i)), (ao (4 + i), cSt (so i))]) (fun _ => tw cy ad nS nB (va_up st i (so i)) bk gate nu ++ tw cy ao mS mB so bo go no) := by
  have h1 := tw_st (cy := cy) (ad := ad) (nB := nB) (st := st) (bk := bk) (gate := gate) (nu := nu) h
  have h2 := xE_two (S := Unit) (e1 := fun _ => cSt (so i)) (4 + i) ((tw cy ad nS nB st bk gate nu).length + (4 + i)) (by rw [tw_len]; omega) (at_l (wt := tw cy ao mS mB so bo go no) h1) (at_r (tw_st hm))
  rw [set_l h1, tw_set_st h] at h2
  exact h2
theorem xE_cbk {i : Nat} (h : i < nB) (hm : i < mB) : xE (tw cy ad nS nB st bk gate nu ++ tw cy ao mS mB so bo go no) [(ad (8 + i), cBk (bk i)), (ao (8 + i), cBk (bo i))] (fun _ : Unit => [(ad (8 + i), cBk (bo i)), (ao (8 + i), cBk (bo i))]) (fun _ => tw cy ad nS nB st (va_up bk i (bo i)) gate nu ++ tw cy ao mS mB so bo go no) := by
  have h1 := tw_bk (cy := cy) (ad := ad) (nS := nS) (st := st) (bk := bk) (gate := gate) (nu := nu) h
  have h2 := xE_two (S := Unit) (e1 := fun _ => cBk (bo i)) (4 + nS + i) ((tw cy ad nS nB st bk gate nu).length + (4 + mS + i)) (by rw [tw_len]; omega) (at_l (wt := tw cy ao mS mB so bo go no) h1) (at_r (tw_bk hm))
  rw [set_l h1, tw_set_bk h] at h2
  exact h2
/-- a new cell behind a world, and one in the world's second half -/
theorem xE_nw {wa wb : va_W} {q b : Nat} {e f e2 : va_E} {k : Nat} (h : wb[k]? = some (b, f)) : xE ((wa ++ wb) ++ [(q, e)]) [(q, e), (b, f)] (fun _ : Unit => [(q, e2), (b, f)]) (fun _ => (wa ++ wb) ++ [(q, e2)]) := by
  have hk := (List.getElem?_eq_some_iff.mp h).1
  have h2 := xE_two (S := Unit) (ws := (wa ++ wb) ++ [(q, e)]) (e1 := fun _ => e2) (wa ++ wb).length (wa.length + k) (by rw [List.length_append]; omega) last_at (at_l (at_r h))
  rw [List.set_append_right _ _ (Nat.le_refl _), Nat.sub_self] at h2
  exact h2
theorem perm_mid {wa wb : va_W} {x y : Nat × va_E} {k : Nat} {z : Nat × va_E} (h : wa[k]? = some z) : List.Perm (((wa ++ wb) ++ [x]).set k y) (((wa ++ [x]).set k y) ++ wb) := by
  rw [set_l (at_l h), set_l h, set_l h, List.append_assoc, List.append_assoc]
  exact List.perm_append_comm.append_left _
theorem tw_cst {z : Nat → Iu} (h : ∀ j, j < nS → z j = st j) : tw cy ad nS nB z bk gate nu = tw cy ad nS nB st bk gate nu := by
  unfold tw
  rw [zS_cong (fun _ _ => rfl) h]
theorem tw_cbk {z : Nat → Iu} (h : ∀ j, j < nB → z j = bk j) : tw cy ad nS nB st z gate nu = tw cy ad nS nB st bk gate nu := by
  unfold tw
  rw [zB_cong (fun _ _ => rfl) h]
end CPY
set_option maxHeartbeats 4000000 in
set_option maxRecDepth 100000 in
/-- copyStores -/
theorem c_X2_copyStores (l : Launch) (D : va_G) (cy : Nat → ClassId) (ad ao : Nat → Nat) (nS nB mS mB : Nat) (st bk so bo : Nat → Iu) (gate nu go no : Iu) (hSM : nS ≤ mS) (hM : mS ≤ 4) : xM l D cy yX2_copyStores wsX2_copyStores ({ frames := 2, cells := 4, slots := 12, locals := 50 } : Room) [.ref (ad 0), .ref (ao 0)] (tw cy ad nS nB st bk gate nu ++ tw cy ao mS mB so bo go no) (fun _ : Nat → Nat => none) (fun a => ∀ j, (j < 4 ∨ 8 ≤ j) → a j = ad j) (fun a => tw cy a mS nB so bk gate nu ++ tw cy ao mS mB so bo go no) := by
  refine xM.of cX2_copyStores 5 none RX2 (by decide +kernel) rfl rfl (Nat.le_of_ble_eq_true rfl) ?_
  intro p e s m below meth c A ls hx hb hr hts hown hlocks hml hin hK hA hP hD hS hl
  have hl : lv_has ls 5 [(0, .ref (ad 0)), (1, .ref (ao 0))] := hl
  have hinX1 : ∀ w ∈ wsX10, w ∈ wsX2_copyStores := fun _ h => List.mem_cons_of_mem _ (List.mem_append_right _ h)
  have hinX2 : ∀ w ∈ wsX20, w ∈ wsX2_copyStores := fun _ h => List.mem_cons_of_mem _ (List.mem_append_left _ (List.mem_append_right _ h))
  refine lv_iconst (v := 0) hx hb dX2_copyStores_0 (by decide) ?_
  refine lv_istore_n (lv' := [(2, .int 0), (0, .ref (ad 0)), (1, .ref (ao 0))]) hx hb dX2_copyStores_1 rfl hl (by decide) rfl (fun ls hl => ?_)
  have loop : ∀ (n i : Nat) (a : Nat → Nat) (M : Nat) (z : Nat → Iu) (H : Heap) (locs : List Loc) (ls : Array Slot), i + n = 4 → (M = max nS (min i mS) ∧ (∀ j, j < min i mS → z j = so j) ∧ (∀ j, (j < 4 ∨ 8 ≤ j) → a j = ad j)) → va_P D vwCl (tw cy a M nB z bk gate nu ++ tw cy ao mS mB so bo go no) H → va_D A (tw cy a M nB z bk gate nu ++ tw cy ao mS mB so bo go no) → va_S A s.heap H locs → lv_has ls 5 [(0, .ref (a 0)), (1, .ref (ao 0)), (2, .int (nI i))] → W p l e ({ frames := 2, cells := 4, slots := 12, locals := 50 } : Room) s m ([.ref (ad 0), .ref (ao 0)] : List Value).toArray below meth c H locs i (3 * i) (MQ below (xQ D A (fun _ : Nat → Nat => none) (fun a => ∀ j, (j < 4 ∨ 8 ≤ j) → a j = ad j) (fun a => tw cy a mS nB so bk gate nu ++ tw cy ao mS mB so bo go no)) ([.ref (ad 0), .ref (ao 0)] : List Value).toArray s 4 12 A) (F0 m 2 ls []) := by
    intro n
    induction n with
    | zero =>
      intro i a M z H locs ls hns hinv hP hD hS hl
      have hii : i = 4 := by omega
      obtain ⟨hN, hz, ha⟩ := hinv
      refine lv_iload_n hx hb dX2_copyStores_2 rfl (lv_at hl 2 rfl) ?_
      refine lv_aload_n hx hb dX2_copyStores_3 rfl (lv_at hl 0 rfl) ?_
      refine va_get (D := D) (ci := 2) (v := .ref (a 2)) (C := RX2) (T := TX2) (N := 9) hx hb hts hinX2 hown hK.1 hP 0 rfl rfl 1 (by decide) (hts (.fieldLink RX2 17 "LoafMarks$Town" "stores" "[LLoafMarks$Store;") (List.mem_of_getElem? (i := 1) rfl)) (fun _ h9 => h9) rfl dX2_copyStores_4 ?_
      refine va_alen hx hb hK.1 hP 2 1 rfl rfl (v := 4) rfl dX2_copyStores_7 ?_
      refine lv_icmp_ge (tgt := 80) hx hb dX2_copyStores_8 (by decide) (fun _ => ?_) (fun h => absurd (by rw [hii]; exact Int32.le_refl _) h)
      have hNm : M = mS := by omega
      subst hNm
      have ez := tw_cst (cy := cy) (ad := a) (nS := M) (nB := nB) (bk := bk) (gate := gate) (nu := nu) (st := so) (z := z) (fun j hj => hz j (by omega))
      exact xrv a hx hb hr hlocks hS (by show i ≤ 4; omega) (by show 3 * i ≤ 12; omega) dX2_copyStores_80 (by rw [← ez]; exact hP) (by rw [← ez]; exact hD) rfl ha
    | succ n ih =>
      intro i a M z H locs ls hns hinv hP hD hS hl
      have hlt : i < 4 := by omega
      obtain ⟨hN, hz, ha⟩ := hinv
      refine lv_iload_n hx hb dX2_copyStores_2 rfl (lv_at hl 2 rfl) ?_
      refine lv_aload_n hx hb dX2_copyStores_3 rfl (lv_at hl 0 rfl) ?_
      refine va_get (D := D) (ci := 2) (v := .ref (a 2)) (C := RX2) (T := TX2) (N := 9) hx hb hts hinX2 hown hK.1 hP 0 rfl rfl 1 (by decide) (hts (.fieldLink RX2 17 "LoafMarks$Town" "stores" "[LLoafMarks$Store;") (List.mem_of_getElem? (i := 1) rfl)) (fun _ h9 => h9) rfl dX2_copyStores_4 ?_
      refine va_alen hx hb hK.1 hP 2 1 rfl rfl (v := 4) rfl dX2_copyStores_7 ?_
      refine lv_icmp_ge (tgt := 80) hx hb dX2_copyStores_8 (by decide) (fun h => absurd h (nI_ge (b := 4) hlt (by omega))) (fun _ => ?_)
      refine lv_aload_n hx hb dX2_copyStores_11 rfl (lv_at hl 1 rfl) ?_
      refine lv_iload_n hx hb dX2_copyStores_12 rfl (lv_at hl 2 rfl) ?_
      refine xcV (As := [.int (nI i)]) (rest := []) ⟨hx, hb, hml, hown, hts⟩ (c_X2_storeAt l D cy ao mS mB so bo go no (nI i) (by omega)) (cwV 1 hts gX2_copyStores_X2_storeAt rfl rfl rfl (by decide +kernel) ⟨Nat.le_of_ble_eq_true rfl, Nat.le_of_ble_eq_true rfl⟩) hK hP hD hS hA rfl rfl rfl (xE_r) rfl hl.1 rfl (Nat.le_of_ble_eq_true rfl) dX2_copyStores_13 ⟨by show i + 0 ≤ 4; omega, by show 3 * i + 0 ≤ 12; omega⟩ (fun _ H locs _ hP hD hS => ?_)
      have hP : va_P D vwCl (tw cy a M nB z bk gate nu ++ tw cy ao mS mB so bo go no) H := hP
      have hD : va_D A (tw cy a M nB z bk gate nu ++ tw cy ao mS mB so bo go no) := hD
      refine W.eq (g2 := F0 m 16 ls [va_rf (sAt ao mS (nI i))]) rfl ?_
      rcases Nat.lt_or_ge i mS with hi | hi
      · refine W.eq (g2 := F0 m 16 ls [.ref (ao (4 + i))]) (by show F0 m 16 ls (va_rf (sAt ao mS (nI i)) :: _) = _; rw [sAt_nI hi (by omega)]) ?_
        refine lv_astore_n (lv' := [(3, .ref (ao (4 + i))), (0, .ref (a 0)), (1, .ref (ao 0)), (2, .int (nI i))]) hx hb dX2_copyStores_16 rfl hl (by decide) rfl (fun ls hl => ?_)
        refine lv_aload_n hx hb dX2_copyStores_17 rfl (lv_at hl 0 rfl) ?_
        refine lv_ifnonnull (tgt := 31) hx hb dX2_copyStores_18 (by decide) ?_
        refine lv_aload_n hx hb dX2_copyStores_31 rfl (lv_at hl 1 rfl) ?_
        refine va_get (D := D) (ci := 2) (v := .ref (a 2)) (C := RX2) (T := TX2) (N := 9) hx hb hts hinX2 hown hK.1 hP 0 rfl rfl 1 (by decide) (hts (.fieldLink RX2 17 "LoafMarks$Town" "stores" "[LLoafMarks$Store;") (List.mem_of_getElem? (i := 1) rfl)) (fun _ h9 => h9) rfl dX2_copyStores_32 ?_
        refine lv_iload_n hx hb dX2_copyStores_35 rfl (lv_at hl 3 rfl) ?_
        refine xaldq hx hb hK hP 2 1 rfl rfl i rfl (by omega) (by decide) dX2_copyStores_36 ?_
        rcases Nat.lt_or_ge i M with hiN | hiN
        · refine W.eq (g2 := F0 m 37 ls [.ref (a (4 + i))]) (by rw [rS_lt hiN]) ?_
          refine lv_ifnonnull (tgt := 52) hx hb dX2_copyStores_37 (by decide) ?_
          refine lv_aload_n hx hb dX2_copyStores_52 rfl (lv_at hl 1 rfl) ?_
          refine va_get (D := D) (ci := 2) (v := .ref (a 2)) (C := RX2) (T := TX2) (N := 9) hx hb hts hinX2 hown hK.1 hP 0 rfl rfl 1 (by decide) (hts (.fieldLink RX2 17 "LoafMarks$Town" "stores" "[LLoafMarks$Store;") (List.mem_of_getElem? (i := 1) rfl)) (fun _ h9 => h9) rfl dX2_copyStores_53 ?_
          refine lv_iload_n hx hb dX2_copyStores_56 rfl (lv_at hl 3 rfl) ?_
          refine xaldq hx hb hK hP 2 1 rfl rfl i rfl (by omega) (by decide) dX2_copyStores_57 ?_
          refine W.eq (g2 := F0 m 58 ls [.ref (a (4 + i))]) (by rw [rS_lt hiN]) ?_
          refine lv_astore (lv' := [(4, .ref (a (4 + i))), (3, .ref (ao (4 + i))), (0, .ref (a 0)), (1, .ref (ao 0)), (2, .int (nI i))]) hx hb dX2_copyStores_58 hl (by decide) rfl (fun ls hl => ?_)
          refine lv_aload hx hb dX2_copyStores_60 (lv_at hl 0 rfl) ?_
          refine lv_aload_n hx hb dX2_copyStores_62 rfl (lv_at hl 1 rfl) ?_
          refine xcV (As := [.ref (ao (4 + i))]) (rest := []) ⟨hx, hb, hml, hown, hts⟩ (c_X1_becomeLike l D cy (a (4 + i)) (ao (4 + i)) (z i) (so i)) (cwV 1 hts gX2_copyStores_X1_becomeLike rfl rfl rfl (by decide +kernel) ⟨Nat.le_of_ble_eq_true rfl, Nat.le_of_ble_eq_true rfl⟩) hK hP hD hS hA rfl rfl rfl (xE_cst hiN hi) rfl hl.1 rfl (Nat.le_of_ble_eq_true rfl) dX2_copyStores_63 ⟨by show i + 0 ≤ 4; omega, by show 3 * i + 0 ≤ 12; omega⟩ (fun _ H locs _ hP hD hS => ?_)
          have hP : va_P D vwCl (tw cy a M nB (va_up z i (so i)) bk gate nu ++ tw cy ao mS mB so bo go no) H := hP
          have hD : va_D A (tw cy a M nB (va_up z i (so i)) bk gate nu ++ tw cy ao mS mB so bo go no) := hD
          refine W.eq (g2 := F0 m 66 ls []) rfl ?_
          refine lv_aload_n hx hb dX2_copyStores_66 rfl (lv_at hl 2 rfl) ?_
          refine va_get (D := D) (ci := 2) (v := .ref (a 2)) (C := RX2) (T := TX2) (N := 9) hx hb hts hinX2 hown hK.1 hP 0 rfl rfl 1 (by decide) (hts (.fieldLink RX2 17 "LoafMarks$Town" "stores" "[LLoafMarks$Store;") (List.mem_of_getElem? (i := 1) rfl)) (fun _ h9 => h9) rfl dX2_copyStores_67 ?_
          refine lv_iload_n hx hb dX2_copyStores_70 rfl (lv_at hl 4 rfl) ?_
          refine lv_aload hx hb dX2_copyStores_71 (lv_at hl 0 rfl) ?_
          refine xastq hx hb hK hP hD hS 2 1 (4 + i) 1 rfl rfl (at_l (tw_st hiN)) rfl i rfl (by omega) (by decide) dX2_copyStores_73 (fun H locs hP hD hS => ?_)
          rw [rS_same hiN] at hP hD
          have hP : va_P D vwCl (tw cy a M nB (va_up z i (so i)) bk gate nu ++ tw cy ao mS mB so bo go no) H := hP
          have hD : va_D A (tw cy a M nB (va_up z i (so i)) bk gate nu ++ tw cy ao mS mB so bo go no) := hD
          refine lv_iinc (v := (nI (i + 1))) (lv' := [(2, .int (nI (i + 1))), (4, .ref (a (4 + i))), (3, .ref (ao (4 + i))), (0, .ref (a 0)), (1, .ref (ao 0))]) hx hb dX2_copyStores_74 hl (k := 4) rfl ((nI_1 i)) (by decide) rfl (fun ls hl => ?_)
          refine lv_goto (tgt := 2) hx hb dX2_copyStores_77 (by decide) ?_
          refine W.cs (cells' := i + 0) (slots' := 3 * i + 0) rfl rfl ?_
          refine W.widen (k := i + 1) (n := 3 * (i + 1)) (by omega) (by omega) ?_
          exact ih (i + 1) a M (va_up z i (so i)) _ _ _ (by omega) (⟨by omega, (fun j hj => (Decidable.em (j = i)).elim (fun hji => by subst hji; exact up_at) (fun hji => by rw [up_ne hji]; exact hz j (by omega))), ha⟩) hP hD hS (lv_sub hl [3, 4, 0] rfl)
        · refine W.eq (g2 := F0 m 37 ls [.null]) (by rw [rS_ge hiN]) ?_
          have hNi : i = M := by omega
          subst hNi
          have hP : va_P D vwCl (tw cy a i nB z bk gate nu ++ tw cy ao mS mB so bo go no) H := hP
          refine lv_ifnonnullN hx hb dX2_copyStores_37 ?_
          refine va_new (ci := 1) (fs := [.int 0, .int 0, .int 0]) (C := RX1) (T := TX1) (N := 3) hx hb hts hinX1 tyX1 tyX1_ok hown (hts (.classLink RX2 15 RX1) (List.mem_of_getElem? (i := 2) rfl)) (hts (.instantiable RX1 3) (List.mem_of_getElem? (i := 3) rfl)) (hts (.initialized RX1) (List.mem_of_getElem? (i := 4) rfl)) hK.1 hP hD hS hA rfl (fun j hj => by rcases (show j = 0 ∨ j = 1 ∨ j = 2 by omega) with rfl | rfl | rfl <;> rfl) (by show i + 1 ≤ 4; omega) (by show 3 * i + 3 ≤ 12; omega) dX2_copyStores_40 (fun q40 H hP hD hS => ?_)
          have hP : va_P D vwCl ((tw cy a i nB z bk gate nu ++ tw cy ao mS mB so bo go no) ++ [(q40, cSt (fun _ => 0))]) H := hP
          have hD : va_D A ((tw cy a i nB z bk gate nu ++ tw cy ao mS mB so bo go no) ++ [(q40, cSt (fun _ => 0))]) := hD
          refine lv_dup hx hb dX2_copyStores_43 rfl ?_
          refine lv_iconst (v := 0) hx hb dX2_copyStores_44 (by decide) ?_
          refine lv_iconst (v := 0) hx hb dX2_copyStores_45 (by decide) ?_
          refine xcI (As := [.int 0, .int 0]) (rest := [.ref q40]) ⟨hx, hb, hml, hown, hts⟩ (c_X1_init l D cy q40 0 0) (cwI 2 hts gX2_copyStores_X1_init rfl rfl rfl (hts (.initialized RX1) (List.mem_of_getElem? (i := 4) rfl)) (hts (.methodLink RX2 61 yX1_init) (List.mem_of_getElem? (i := 10) rfl)) (hts (.instanceMethod yX1_init) (List.mem_of_getElem? (i := 11) rfl)) rfl (by decide +kernel) ⟨Nat.le_of_ble_eq_true rfl, Nat.le_of_ble_eq_true rfl⟩) hK hP hD hS hA (xE_r) rfl hl.1 rfl (Nat.le_of_ble_eq_true rfl) dX2_copyStores_46 ⟨by show i + 1 + 0 ≤ 4; omega, by show 3 * i + 3 + 0 ≤ 12; omega⟩ (fun _ H locs _ hP hD hS => ?_)
          have hP : va_P D vwCl ((tw cy a i nB z bk gate nu ++ tw cy ao mS mB so bo go no) ++ [(q40, cSt (newS 0 0))]) H := hP
          have hD : va_D A ((tw cy a i nB z bk gate nu ++ tw cy ao mS mB so bo go no) ++ [(q40, cSt (newS 0 0))]) := hD
          refine W.eq (g2 := F0 m 49 ls [.ref q40]) rfl ?_
          refine lv_goto (tgt := 58) hx hb dX2_copyStores_49 (by decide) ?_
          refine lv_astore (lv' := [(4, .ref q40), (3, .ref (ao (4 + i))), (0, .ref (a 0)), (1, .ref (ao 0)), (2, .int (nI i))]) hx hb dX2_copyStores_58 hl (by decide) rfl (fun ls hl => ?_)
          refine lv_aload hx hb dX2_copyStores_60 (lv_at hl 0 rfl) ?_
          refine lv_aload_n hx hb dX2_copyStores_62 rfl (lv_at hl 1 rfl) ?_
          refine xcV (As := [.ref (ao (4 + i))]) (rest := []) ⟨hx, hb, hml, hown, hts⟩ (c_X1_becomeLike l D cy q40 (ao (4 + i)) (newS 0 0) (so i)) (cwV 1 hts gX2_copyStores_X1_becomeLike rfl rfl rfl (by decide +kernel) ⟨Nat.le_of_ble_eq_true rfl, Nat.le_of_ble_eq_true rfl⟩) hK hP hD hS hA rfl rfl rfl (xE_nw (tw_st hi)) rfl hl.1 rfl (Nat.le_of_ble_eq_true rfl) dX2_copyStores_63 ⟨by show i + 1 + 0 + 0 ≤ 4; omega, by show 3 * i + 3 + 0 + 0 ≤ 12; omega⟩ (fun _ H locs _ hP hD hS => ?_)
          have hP : va_P D vwCl ((tw cy a i nB z bk gate nu ++ tw cy ao mS mB so bo go no) ++ [(q40, cSt (so i))]) H := hP
          have hD : va_D A ((tw cy a i nB z bk gate nu ++ tw cy ao mS mB so bo go no) ++ [(q40, cSt (so i))]) := hD
          refine W.eq (g2 := F0 m 66 ls []) rfl ?_
          refine lv_aload_n hx hb dX2_copyStores_66 rfl (lv_at hl 2 rfl) ?_
          refine va_get (D := D) (ci := 2) (v := .ref (a 2)) (C := RX2) (T := TX2) (N := 9) hx hb hts hinX2 hown hK.1 hP 0 rfl rfl 1 (by decide) (hts (.fieldLink RX2 17 "LoafMarks$Town" "stores" "[LLoafMarks$Store;") (List.mem_of_getElem? (i := 1) rfl)) (fun _ h9 => h9) rfl dX2_copyStores_67 ?_
          refine lv_iload_n hx hb dX2_copyStores_70 rfl (lv_at hl 4 rfl) ?_
          refine lv_aload hx hb dX2_copyStores_71 (lv_at hl 0 rfl) ?_
          refine xastq hx hb hK hP hD hS 2 1 (tw cy a i nB z bk gate nu ++ tw cy ao mS mB so bo go no).length 1 rfl rfl last_at rfl i rfl (by omega) (by decide) dX2_copyStores_73 (fun H locs hP hD hS => ?_)
          have hP := xP_perm ((perm_mid rfl).trans ((tw_push_st hlt).append_right _)) hP
          have hD := xD_perm ((perm_mid rfl).trans ((tw_push_st hlt).append_right _)) hD
          have hP : va_P D vwCl (tw cy (va_up a (4 + i) q40) (i + 1) nB (va_up z i (so i)) bk gate nu ++ tw cy ao mS mB so bo go no) H := hP
          have hD : va_D A (tw cy (va_up a (4 + i) q40) (i + 1) nB (va_up z i (so i)) bk gate nu ++ tw cy ao mS mB so bo go no) := hD
          refine lv_iinc (v := (nI (i + 1))) (lv' := [(2, .int (nI (i + 1))), (4, .ref q40), (3, .ref (ao (4 + i))), (0, .ref (a 0)), (1, .ref (ao 0))]) hx hb dX2_copyStores_74 hl (k := 4) rfl ((nI_1 i)) (by decide) rfl (fun ls hl => ?_)
          refine lv_goto (tgt := 2) hx hb dX2_copyStores_77 (by decide) ?_
          refine W.cs (cells' := i + 1) (slots' := 3 * i + 3) rfl rfl ?_
          refine W.widen (k := i + 1) (n := 3 * (i + 1)) (by omega) (by omega) ?_
          exact ih (i + 1) (va_up a (4 + i) q40) (i + 1) (va_up z i (so i)) _ _ _ (by omega) (⟨by omega, (fun j hj => (Decidable.em (j = i)).elim (fun hji => by subst hji; exact up_at) (fun hji => by rw [up_ne hji]; exact hz j (by omega))), fun j hj => by rw [up_ne (by omega)]; exact ha j hj⟩) hP hD hS (lv_sub hl [3, 4, 0] (by rw [up_ne (by omega)]; rfl))
      · refine W.eq (g2 := F0 m 16 ls [.null]) (by show F0 m 16 ls (va_rf (sAt ao mS (nI i)) :: _) = _; rw [sAt_ge hi (by omega)]) ?_
        refine lv_astore_nN (lv' := [(3, .null), (0, .ref (a 0)), (1, .ref (ao 0)), (2, .int (nI i))]) hx hb dX2_copyStores_16 rfl hl (by decide) rfl (fun ls hl => ?_)
        refine lv_aload_nN hx hb dX2_copyStores_17 rfl (lv_at hl 0 rfl) ?_
        refine lv_ifnonnullN hx hb dX2_copyStores_18 ?_
        refine lv_aload_n hx hb dX2_copyStores_21 rfl (lv_at hl 1 rfl) ?_
        refine va_get (D := D) (ci := 2) (v := .ref (a 2)) (C := RX2) (T := TX2) (N := 9) hx hb hts hinX2 hown hK.1 hP 0 rfl rfl 1 (by decide) (hts (.fieldLink RX2 17 "LoafMarks$Town" "stores" "[LLoafMarks$Store;") (List.mem_of_getElem? (i := 1) rfl)) (fun _ h9 => h9) rfl dX2_copyStores_22 ?_
        refine lv_iload_n hx hb dX2_copyStores_25 rfl (lv_at hl 3 rfl) ?_
        refine lv_null hx hb dX2_copyStores_26 ?_
        refine xastqN hx hb hK hP hD hS 2 1 rfl rfl i rfl (by omega) (by decide) dX2_copyStores_27 (fun H locs hP hD hS => ?_)
        rw [rS_null (by omega)] at hP hD
        have hP : va_P D vwCl (tw cy a M nB z bk gate nu ++ tw cy ao mS mB so bo go no) H := hP
        have hD : va_D A (tw cy a M nB z bk gate nu ++ tw cy ao mS mB so bo go no) := hD
        refine lv_goto (tgt := 74) hx hb dX2_copyStores_28 (by decide) ?_
        refine lv_iinc (v := (nI (i + 1))) (lv' := [(2, .int (nI (i + 1))), (3, .null), (0, .ref (a 0)), (1, .ref (ao 0))]) hx hb dX2_copyStores_74 hl (k := 3) rfl ((nI_1 i)) (by decide) rfl (fun ls hl => ?_)
        refine lv_goto (tgt := 2) hx hb dX2_copyStores_77 (by decide) ?_
        refine W.cs (cells' := i + 0) (slots' := 3 * i + 0) rfl rfl ?_
        refine W.widen (k := i + 1) (n := 3 * (i + 1)) (by omega) (by omega) ?_
        exact ih (i + 1) a M z _ _ _ (by omega) (⟨by omega, fun j hj => hz j (by omega), ha⟩) hP hD hS (lv_sub hl [2, 3, 0] rfl)
  exact loop 4 0 ad nS st _ _ _ (by omega) (⟨by omega, fun j hj => absurd hj (by omega), fun _ _ => rfl⟩) hP hD hS (lv_sub hl [1, 2, 0] rfl)

set_option maxHeartbeats 4000000 in
set_option maxRecDepth 100000 in
/-- copyBakers -/
theorem c_X2_copyBakers (l : Launch) (D : va_G) (cy : Nat → ClassId) (ad ao : Nat → Nat) (nS nB mS mB : Nat) (st bk so bo : Nat → Iu) (gate nu go no : Iu) (hSM : nB ≤ mB) (hM : mB ≤ 6) (hS4 : nS ≤ 4) (hb7 : ∀ j, j < mB → bo j 7 = 0 ∨ bo j 7 = 1) : xM l D cy yX2_copyBakers wsX2_copyBakers ({ frames := 2, cells := 6, slots := 48, locals := 50 } : Room) [.ref (ad 0), .ref (ao 0)] (tw cy ad nS nB st bk gate nu ++ tw cy ao mS mB so bo go no) (fun _ : Nat → Nat => none) (fun a => ∀ j, j < 8 → a j = ad j) (fun a => tw cy a nS mB st bo gate nu ++ tw cy ao mS mB so bo go no) := by
  refine xM.of cX2_copyBakers 5 none RX2 (by decide +kernel) rfl rfl (Nat.le_of_ble_eq_true rfl) ?_
  intro p e s m below meth c A ls hx hb hr hts hown hlocks hml hin hK hA hP hD hS hl
  have hl : lv_has ls 5 [(0, .ref (ad 0)), (1, .ref (ao 0))] := hl
  have hinX0 : ∀ w ∈ wsX00, w ∈ wsX2_copyBakers := fun _ h => List.mem_cons_of_mem _ (List.mem_append_right _ h)
  have hinX2 : ∀ w ∈ wsX20, w ∈ wsX2_copyBakers := fun _ h => List.mem_cons_of_mem _ (List.mem_append_left _ (List.mem_append_right _ h))
  refine lv_iconst (v := 0) hx hb dX2_copyBakers_0 (by decide) ?_
  refine lv_istore_n (lv' := [(2, .int 0), (0, .ref (ad 0)), (1, .ref (ao 0))]) hx hb dX2_copyBakers_1 rfl hl (by decide) rfl (fun ls hl => ?_)
  have loop : ∀ (n i : Nat) (a : Nat → Nat) (M : Nat) (z : Nat → Iu) (H : Heap) (locs : List Loc) (ls : Array Slot), i + n = 6 → (M = max nB (min i mB) ∧ (∀ j, j < min i mB → z j = bo j) ∧ (∀ j, j < 8 → a j = ad j)) → va_P D vwCl (tw cy a nS M st z gate nu ++ tw cy ao mS mB so bo go no) H → va_D A (tw cy a nS M st z gate nu ++ tw cy ao mS mB so bo go no) → va_S A s.heap H locs → lv_has ls 5 [(0, .ref (a 0)), (1, .ref (ao 0)), (2, .int (nI i))] → W p l e ({ frames := 2, cells := 6, slots := 48, locals := 50 } : Room) s m ([.ref (ad 0), .ref (ao 0)] : List Value).toArray below meth c H locs i (8 * i) (MQ below (xQ D A (fun _ : Nat → Nat => none) (fun a => ∀ j, j < 8 → a j = ad j) (fun a => tw cy a nS mB st bo gate nu ++ tw cy ao mS mB so bo go no)) ([.ref (ad 0), .ref (ao 0)] : List Value).toArray s 6 48 A) (F0 m 2 ls []) := by
    intro n
    induction n with
    | zero =>
      intro i a M z H locs ls hns hinv hP hD hS hl
      have hii : i = 6 := by omega
      obtain ⟨hN, hz, ha⟩ := hinv
      refine lv_iload_n hx hb dX2_copyBakers_2 rfl (lv_at hl 2 rfl) ?_
      refine lv_aload_n hx hb dX2_copyBakers_3 rfl (lv_at hl 0 rfl) ?_
      refine va_get (D := D) (ci := 2) (v := .ref (a 3)) (C := RX2) (T := TX2) (N := 9) hx hb hts hinX2 hown hK.1 hP 0 rfl rfl 2 (by decide) (hts (.fieldLink RX2 23 "LoafMarks$Town" "bakers" "[LLoafMarks$Baker;") (List.mem_of_getElem? (i := 1) rfl)) (fun _ h9 => h9) rfl dX2_copyBakers_4 ?_
      refine va_alen hx hb hK.1 hP 3 2 rfl rfl (v := 6) rfl dX2_copyBakers_7 ?_
      refine lv_icmp_ge (tgt := 82) hx hb dX2_copyBakers_8 (by decide) (fun _ => ?_) (fun h => absurd (by rw [hii]; exact Int32.le_refl _) h)
      have hNm : M = mB := by omega
      subst hNm
      have ez := tw_cbk (cy := cy) (ad := a) (nB := M) (nS := nS) (st := st) (gate := gate) (nu := nu) (bk := bo) (z := z) (fun j hj => hz j (by omega))
      exact xrv a hx hb hr hlocks hS (by show i ≤ 6; omega) (by show 8 * i ≤ 48; omega) dX2_copyBakers_82 (by rw [← ez]; exact hP) (by rw [← ez]; exact hD) rfl ha
    | succ n ih =>
      intro i a M z H locs ls hns hinv hP hD hS hl
      have hlt : i < 6 := by omega
      obtain ⟨hN, hz, ha⟩ := hinv
      refine lv_iload_n hx hb dX2_copyBakers_2 rfl (lv_at hl 2 rfl) ?_
      refine lv_aload_n hx hb dX2_copyBakers_3 rfl (lv_at hl 0 rfl) ?_
      refine va_get (D := D) (ci := 2) (v := .ref (a 3)) (C := RX2) (T := TX2) (N := 9) hx hb hts hinX2 hown hK.1 hP 0 rfl rfl 2 (by decide) (hts (.fieldLink RX2 23 "LoafMarks$Town" "bakers" "[LLoafMarks$Baker;") (List.mem_of_getElem? (i := 1) rfl)) (fun _ h9 => h9) rfl dX2_copyBakers_4 ?_
      refine va_alen hx hb hK.1 hP 3 2 rfl rfl (v := 6) rfl dX2_copyBakers_7 ?_
      refine lv_icmp_ge (tgt := 82) hx hb dX2_copyBakers_8 (by decide) (fun h => absurd h (nI_ge (b := 6) hlt (by omega))) (fun _ => ?_)
      refine lv_aload_n hx hb dX2_copyBakers_11 rfl (lv_at hl 1 rfl) ?_
      refine lv_iload_n hx hb dX2_copyBakers_12 rfl (lv_at hl 2 rfl) ?_
      refine xcV (As := [.int (nI i)]) (rest := []) ⟨hx, hb, hml, hown, hts⟩ (c_X2_bakerAt l D cy ao mS mB so bo go no (nI i) (by omega)) (cwV 1 hts gX2_copyBakers_X2_bakerAt rfl rfl rfl (by decide +kernel) ⟨Nat.le_of_ble_eq_true rfl, Nat.le_of_ble_eq_true rfl⟩) hK hP hD hS hA rfl rfl rfl (xE_r) rfl hl.1 rfl (Nat.le_of_ble_eq_true rfl) dX2_copyBakers_13 ⟨by show i + 0 ≤ 6; omega, by show 8 * i + 0 ≤ 48; omega⟩ (fun _ H locs _ hP hD hS => ?_)
      have hP : va_P D vwCl (tw cy a nS M st z gate nu ++ tw cy ao mS mB so bo go no) H := hP
      have hD : va_D A (tw cy a nS M st z gate nu ++ tw cy ao mS mB so bo go no) := hD
      refine W.eq (g2 := F0 m 16 ls [va_rf (bAt ao mB (nI i))]) rfl ?_
      rcases Nat.lt_or_ge i mB with hi | hi
      · refine W.eq (g2 := F0 m 16 ls [.ref (ao (8 + i))]) (by show F0 m 16 ls (va_rf (bAt ao mB (nI i)) :: _) = _; rw [bAt_nI hi (by omega)]) ?_
        refine lv_astore_n (lv' := [(3, .ref (ao (8 + i))), (0, .ref (a 0)), (1, .ref (ao 0)), (2, .int (nI i))]) hx hb dX2_copyBakers_16 rfl hl (by decide) rfl (fun ls hl => ?_)
        refine lv_aload_n hx hb dX2_copyBakers_17 rfl (lv_at hl 0 rfl) ?_
        refine lv_ifnonnull (tgt := 31) hx hb dX2_copyBakers_18 (by decide) ?_
        refine lv_aload_n hx hb dX2_copyBakers_31 rfl (lv_at hl 1 rfl) ?_
        refine va_get (D := D) (ci := 2) (v := .ref (a 3)) (C := RX2) (T := TX2) (N := 9) hx hb hts hinX2 hown hK.1 hP 0 rfl rfl 2 (by decide) (hts (.fieldLink RX2 23 "LoafMarks$Town" "bakers" "[LLoafMarks$Baker;") (List.mem_of_getElem? (i := 1) rfl)) (fun _ h9 => h9) rfl dX2_copyBakers_32 ?_
        refine lv_iload_n hx hb dX2_copyBakers_35 rfl (lv_at hl 3 rfl) ?_
        refine xaldq hx hb hK hP 3 2 rfl rfl i rfl (by omega) (by decide) dX2_copyBakers_36 ?_
        rcases Nat.lt_or_ge i M with hiN | hiN
        · refine W.eq (g2 := F0 m 37 ls [.ref (a (8 + i))]) (by rw [rB_lt hiN]) ?_
          refine lv_ifnonnull (tgt := 54) hx hb dX2_copyBakers_37 (by decide) ?_
          refine lv_aload_n hx hb dX2_copyBakers_54 rfl (lv_at hl 1 rfl) ?_
          refine va_get (D := D) (ci := 2) (v := .ref (a 3)) (C := RX2) (T := TX2) (N := 9) hx hb hts hinX2 hown hK.1 hP 0 rfl rfl 2 (by decide) (hts (.fieldLink RX2 23 "LoafMarks$Town" "bakers" "[LLoafMarks$Baker;") (List.mem_of_getElem? (i := 1) rfl)) (fun _ h9 => h9) rfl dX2_copyBakers_55 ?_
          refine lv_iload_n hx hb dX2_copyBakers_58 rfl (lv_at hl 3 rfl) ?_
          refine xaldq hx hb hK hP 3 2 rfl rfl i rfl (by omega) (by decide) dX2_copyBakers_59 ?_
          refine W.eq (g2 := F0 m 60 ls [.ref (a (8 + i))]) (by rw [rB_lt hiN]) ?_
          refine lv_astore (lv' := [(4, .ref (a (8 + i))), (3, .ref (ao (8 + i))), (0, .ref (a 0)), (1, .ref (ao 0)), (2, .int (nI i))]) hx hb dX2_copyBakers_60 hl (by decide) rfl (fun ls hl => ?_)
          refine lv_aload hx hb dX2_copyBakers_62 (lv_at hl 0 rfl) ?_
          refine lv_aload_n hx hb dX2_copyBakers_64 rfl (lv_at hl 1 rfl) ?_
          refine xcV (As := [.ref (ao (8 + i))]) (rest := []) ⟨hx, hb, hml, hown, hts⟩ (c_X0_becomeLike l D cy (a (8 + i)) (ao (8 + i)) (z i) (bo i) (hb7 i hi)) (cwV 1 hts gX2_copyBakers_X0_becomeLike rfl rfl rfl (by decide +kernel) ⟨Nat.le_of_ble_eq_true rfl, Nat.le_of_ble_eq_true rfl⟩) hK hP hD hS hA rfl rfl rfl (xE_cbk hiN hi) rfl hl.1 rfl (Nat.le_of_ble_eq_true rfl) dX2_copyBakers_65 ⟨by show i + 0 ≤ 6; omega, by show 8 * i + 0 ≤ 48; omega⟩ (fun _ H locs _ hP hD hS => ?_)
          have hP : va_P D vwCl (tw cy a nS M st (va_up z i (bo i)) gate nu ++ tw cy ao mS mB so bo go no) H := hP
          have hD : va_D A (tw cy a nS M st (va_up z i (bo i)) gate nu ++ tw cy ao mS mB so bo go no) := hD
          refine W.eq (g2 := F0 m 68 ls []) rfl ?_
          refine lv_aload_n hx hb dX2_copyBakers_68 rfl (lv_at hl 2 rfl) ?_
          refine va_get (D := D) (ci := 2) (v := .ref (a 3)) (C := RX2) (T := TX2) (N := 9) hx hb hts hinX2 hown hK.1 hP 0 rfl rfl 2 (by decide) (hts (.fieldLink RX2 23 "LoafMarks$Town" "bakers" "[LLoafMarks$Baker;") (List.mem_of_getElem? (i := 1) rfl)) (fun _ h9 => h9) rfl dX2_copyBakers_69 ?_
          refine lv_iload_n hx hb dX2_copyBakers_72 rfl (lv_at hl 4 rfl) ?_
          refine lv_aload hx hb dX2_copyBakers_73 (lv_at hl 0 rfl) ?_
          refine xastq hx hb hK hP hD hS 3 2 (4 + nS + i) 0 rfl rfl (at_l (tw_bk hiN)) rfl i rfl (by omega) (by decide) dX2_copyBakers_75 (fun H locs hP hD hS => ?_)
          rw [rB_same hiN] at hP hD
          have hP : va_P D vwCl (tw cy a nS M st (va_up z i (bo i)) gate nu ++ tw cy ao mS mB so bo go no) H := hP
          have hD : va_D A (tw cy a nS M st (va_up z i (bo i)) gate nu ++ tw cy ao mS mB so bo go no) := hD
          refine lv_iinc (v := (nI (i + 1))) (lv' := [(2, .int (nI (i + 1))), (4, .ref (a (8 + i))), (3, .ref (ao (8 + i))), (0, .ref (a 0)), (1, .ref (ao 0))]) hx hb dX2_copyBakers_76 hl (k := 4) rfl ((nI_1 i)) (by decide) rfl (fun ls hl => ?_)
          refine lv_goto (tgt := 2) hx hb dX2_copyBakers_79 (by decide) ?_
          refine W.cs (cells' := i + 0) (slots' := 8 * i + 0) rfl rfl ?_
          refine W.widen (k := i + 1) (n := 8 * (i + 1)) (by omega) (by omega) ?_
          exact ih (i + 1) a M (va_up z i (bo i)) _ _ _ (by omega) (⟨by omega, (fun j hj => (Decidable.em (j = i)).elim (fun hji => by subst hji; exact up_at) (fun hji => by rw [up_ne hji]; exact hz j (by omega))), ha⟩) hP hD hS (lv_sub hl [3, 4, 0] rfl)
        · refine W.eq (g2 := F0 m 37 ls [.null]) (by rw [rB_ge hiN]) ?_
          have hNi : i = M := by omega
          subst hNi
          have hP : va_P D vwCl (tw cy a nS i st z gate nu ++ tw cy ao mS mB so bo go no) H := hP
          refine lv_ifnonnullN hx hb dX2_copyBakers_37 ?_
          refine va_new (ci := 0) (fs := [.int 0, .int 0, .int 0, .int 0, .int 0, .int 0, .int 0, .int 0]) (C := RX0) (T := TX0) (N := 8) hx hb hts hinX0 tyX0 tyX0_ok hown (hts (.classLink RX2 21 RX0) (List.mem_of_getElem? (i := 2) rfl)) (hts (.instantiable RX0 8) (List.mem_of_getElem? (i := 3) rfl)) (hts (.initialized RX0) (List.mem_of_getElem? (i := 4) rfl)) hK.1 hP hD hS hA rfl (fun j hj => by rcases (show j = 0 ∨ j = 1 ∨ j = 2 ∨ j = 3 ∨ j = 4 ∨ j = 5 ∨ j = 6 ∨ j = 7 by omega) with rfl | rfl | rfl | rfl | rfl | rfl | rfl | rfl <;> rfl) (by show i + 1 ≤ 6; omega) (by show 8 * i + 8 ≤ 48; omega) dX2_copyBakers_40 (fun q40 H hP hD hS => ?_)
          have hP : va_P D vwCl ((tw cy a nS i st z gate nu ++ tw cy ao mS mB so bo go no) ++ [(q40, cBk (fun _ => 0))]) H := hP
          have hD : va_D A ((tw cy a nS i st z gate nu ++ tw cy ao mS mB so bo go no) ++ [(q40, cBk (fun _ => 0))]) := hD
          refine lv_dup hx hb dX2_copyBakers_43 rfl ?_
          refine lv_iconst (v := 0) hx hb dX2_copyBakers_44 (by decide) ?_
          refine lv_iconst (v := 0) hx hb dX2_copyBakers_45 (by decide) ?_
          refine lv_iconst (v := 0) hx hb dX2_copyBakers_46 (by decide) ?_
          refine lv_iconst (v := 0) hx hb dX2_copyBakers_47 (by decide) ?_
          refine xcI (As := [.int 0, .int 0, .int 0, .int 0]) (rest := [.ref q40]) ⟨hx, hb, hml, hown, hts⟩ (c_X0_init l D cy q40 0 0 0 0) (cwI 4 hts gX2_copyBakers_X0_init rfl rfl rfl (hts (.initialized RX0) (List.mem_of_getElem? (i := 4) rfl)) (hts (.methodLink RX2 72 yX0_init) (List.mem_of_getElem? (i := 10) rfl)) (hts (.instanceMethod yX0_init) (List.mem_of_getElem? (i := 11) rfl)) rfl (by decide +kernel) ⟨Nat.le_of_ble_eq_true rfl, Nat.le_of_ble_eq_true rfl⟩) hK hP hD hS hA (xE_r) rfl hl.1 rfl (Nat.le_of_ble_eq_true rfl) dX2_copyBakers_48 ⟨by show i + 1 + 0 ≤ 6; omega, by show 8 * i + 8 + 0 ≤ 48; omega⟩ (fun _ H locs _ hP hD hS => ?_)
          have hP : va_P D vwCl ((tw cy a nS i st z gate nu ++ tw cy ao mS mB so bo go no) ++ [(q40, cBk (newB 0 0 0 0))]) H := hP
          have hD : va_D A ((tw cy a nS i st z gate nu ++ tw cy ao mS mB so bo go no) ++ [(q40, cBk (newB 0 0 0 0))]) := hD
          refine W.eq (g2 := F0 m 51 ls [.ref q40]) rfl ?_
          refine lv_goto (tgt := 60) hx hb dX2_copyBakers_51 (by decide) ?_
          refine lv_astore (lv' := [(4, .ref q40), (3, .ref (ao (8 + i))), (0, .ref (a 0)), (1, .ref (ao 0)), (2, .int (nI i))]) hx hb dX2_copyBakers_60 hl (by decide) rfl (fun ls hl => ?_)
          refine lv_aload hx hb dX2_copyBakers_62 (lv_at hl 0 rfl) ?_
          refine lv_aload_n hx hb dX2_copyBakers_64 rfl (lv_at hl 1 rfl) ?_
          refine xcV (As := [.ref (ao (8 + i))]) (rest := []) ⟨hx, hb, hml, hown, hts⟩ (c_X0_becomeLike l D cy q40 (ao (8 + i)) (newB 0 0 0 0) (bo i) (hb7 i hi)) (cwV 1 hts gX2_copyBakers_X0_becomeLike rfl rfl rfl (by decide +kernel) ⟨Nat.le_of_ble_eq_true rfl, Nat.le_of_ble_eq_true rfl⟩) hK hP hD hS hA rfl rfl rfl (xE_nw (tw_bk hi)) rfl hl.1 rfl (Nat.le_of_ble_eq_true rfl) dX2_copyBakers_65 ⟨by show i + 1 + 0 + 0 ≤ 6; omega, by show 8 * i + 8 + 0 + 0 ≤ 48; omega⟩ (fun _ H locs _ hP hD hS => ?_)
          have hP : va_P D vwCl ((tw cy a nS i st z gate nu ++ tw cy ao mS mB so bo go no) ++ [(q40, cBk (bo i))]) H := hP
          have hD : va_D A ((tw cy a nS i st z gate nu ++ tw cy ao mS mB so bo go no) ++ [(q40, cBk (bo i))]) := hD
          refine W.eq (g2 := F0 m 68 ls []) rfl ?_
          refine lv_aload_n hx hb dX2_copyBakers_68 rfl (lv_at hl 2 rfl) ?_
          refine va_get (D := D) (ci := 2) (v := .ref (a 3)) (C := RX2) (T := TX2) (N := 9) hx hb hts hinX2 hown hK.1 hP 0 rfl rfl 2 (by decide) (hts (.fieldLink RX2 23 "LoafMarks$Town" "bakers" "[LLoafMarks$Baker;") (List.mem_of_getElem? (i := 1) rfl)) (fun _ h9 => h9) rfl dX2_copyBakers_69 ?_
          refine lv_iload_n hx hb dX2_copyBakers_72 rfl (lv_at hl 4 rfl) ?_
          refine lv_aload hx hb dX2_copyBakers_73 (lv_at hl 0 rfl) ?_
          refine xastq hx hb hK hP hD hS 3 2 (tw cy a nS i st z gate nu ++ tw cy ao mS mB so bo go no).length 0 rfl rfl last_at rfl i rfl (by omega) (by decide) dX2_copyBakers_75 (fun H locs hP hD hS => ?_)
          have hP := xP_perm ((perm_mid rfl).trans ((tw_push_bk hS4).append_right _)) hP
          have hD := xD_perm ((perm_mid rfl).trans ((tw_push_bk hS4).append_right _)) hD
          have hP : va_P D vwCl (tw cy (va_up a (8 + i) q40) nS (i + 1) st (va_up z i (bo i)) gate nu ++ tw cy ao mS mB so bo go no) H := hP
          have hD : va_D A (tw cy (va_up a (8 + i) q40) nS (i + 1) st (va_up z i (bo i)) gate nu ++ tw cy ao mS mB so bo go no) := hD
          refine lv_iinc (v := (nI (i + 1))) (lv' := [(2, .int (nI (i + 1))), (4, .ref q40), (3, .ref (ao (8 + i))), (0, .ref (a 0)), (1, .ref (ao 0))]) hx hb dX2_copyBakers_76 hl (k := 4) rfl ((nI_1 i)) (by decide) rfl (fun ls hl => ?_)
          refine lv_goto (tgt := 2) hx hb dX2_copyBakers_79 (by decide) ?_
          refine W.cs (cells' := i + 1) (slots' := 8 * i + 8) rfl rfl ?_
          refine W.widen (k := i + 1) (n := 8 * (i + 1)) (by omega) (by omega) ?_
          exact ih (i + 1) (va_up a (8 + i) q40) (i + 1) (va_up z i (bo i)) _ _ _ (by omega) (⟨by omega, (fun j hj => (Decidable.em (j = i)).elim (fun hji => by subst hji; exact up_at) (fun hji => by rw [up_ne hji]; exact hz j (by omega))), fun j hj => by rw [up_ne (by omega)]; exact ha j hj⟩) hP hD hS (lv_sub hl [3, 4, 0] (by rw [up_ne (by omega)]; rfl))
      · refine W.eq (g2 := F0 m 16 ls [.null]) (by show F0 m 16 ls (va_rf (bAt ao mB (nI i)) :: _) = _; rw [bAt_ge hi (by omega)]) ?_
        refine lv_astore_nN (lv' := [(3, .null), (0, .ref (a 0)), (1, .ref (ao 0)), (2, .int (nI i))]) hx hb dX2_copyBakers_16 rfl hl (by decide) rfl (fun ls hl => ?_)
        refine lv_aload_nN hx hb dX2_copyBakers_17 rfl (lv_at hl 0 rfl) ?_
        refine lv_ifnonnullN hx hb dX2_copyBakers_18 ?_
        refine lv_aload_n hx hb dX2_copyBakers_21 rfl (lv_at hl 1 rfl) ?_
        refine va_get (D := D) (ci := 2) (v := .ref (a 3)) (C := RX2) (T := TX2) (N := 9) hx hb hts hinX2 hown hK.1 hP 0 rfl rfl 2 (by decide) (hts (.fieldLink RX2 23 "LoafMarks$Town" "bakers" "[LLoafMarks$Baker;") (List.mem_of_getElem? (i := 1) rfl)) (fun _ h9 => h9) rfl dX2_copyBakers_22 ?_
        refine lv_iload_n hx hb dX2_copyBakers_25 rfl (lv_at hl 3 rfl) ?_
        refine lv_null hx hb dX2_copyBakers_26 ?_
        refine xastqN hx hb hK hP hD hS 3 2 rfl rfl i rfl (by omega) (by decide) dX2_copyBakers_27 (fun H locs hP hD hS => ?_)
        rw [rB_null (by omega)] at hP hD
        have hP : va_P D vwCl (tw cy a nS M st z gate nu ++ tw cy ao mS mB so bo go no) H := hP
        have hD : va_D A (tw cy a nS M st z gate nu ++ tw cy ao mS mB so bo go no) := hD
        refine lv_goto (tgt := 76) hx hb dX2_copyBakers_28 (by decide) ?_
        refine lv_iinc (v := (nI (i + 1))) (lv' := [(2, .int (nI (i + 1))), (3, .null), (0, .ref (a 0)), (1, .ref (ao 0))]) hx hb dX2_copyBakers_76 hl (k := 3) rfl ((nI_1 i)) (by decide) rfl (fun ls hl => ?_)
        refine lv_goto (tgt := 2) hx hb dX2_copyBakers_79 (by decide) ?_
        refine W.cs (cells' := i + 0) (slots' := 8 * i + 0) rfl rfl ?_
        refine W.widen (k := i + 1) (n := 8 * (i + 1)) (by omega) (by omega) ?_
        exact ih (i + 1) a M z _ _ _ (by omega) (⟨by omega, fun j hj => hz j (by omega), ha⟩) hP hD hS (lv_sub hl [2, 3, 0] rfl)
  exact loop 6 0 ad nB bk _ _ _ (by omega) (⟨by omega, fun j hj => absurd hj (by omega), fun _ _ => rfl⟩) hP hD hS (lv_sub hl [1, 2, 0] rfl)
end
section
/-! ===== the town: becomeLike, its start (laid by gen16.py) ===== -/
theorem vp_cell_cong {cA : ClassId} {n : Nat} {f g : Iu} (h : ∀ j, j < n → f j = g j) : vp_cell cA (n, .inl f) = vp_cell cA (n, .inl g) := by
  rw [vp_cell_i, vp_cell_i]
  unfold arrV
  congr 1
  apply Array.ext
  · simp
  · intro i h1 h2
    simp at h1 ⊢
    exact h i h1
section GATE
variable {cy : Nat → ClassId} {ad : Nat → Nat} {nS nB : Nat} {st bk : Nat → Iu} {g g2 nu : Iu} {D : va_G} {H : Heap} {A : Nat → Prop} {wt : va_W}
theorem tw_gateP (h : ∀ j, j < 24 → g j = g2 j) (hP : va_P D vwCl (tw cy ad nS nB st bk g nu ++ wt) H) : va_P D vwCl (tw cy ad nS nB st bk g2 nu ++ wt) H := by
  intro k q hq
  by_cases hk : k = 1
  · subst hk
    have e : q = (ad 1, .inl (cy 0, 24, .inl g2)) := (Option.some.inj hq).symm
    subst e
    have h1 := hP 1 (ad 1, .inl (cy 0, 24, .inl g)) rfl
    show H[ad 1]? = some (vp_cell (cy 0) (24, .inl g2))
    rw [← vp_cell_cong h]
    exact h1
  · refine hP k q ?_
    rw [← hq]
    match k, hk with
    | 0, _ => rfl
    | 1, hk => exact absurd rfl hk
    | k + 2, _ => rfl
theorem tw_gateD (hD : va_D A (tw cy ad nS nB st bk g nu ++ wt)) : va_D A (tw cy ad nS nB st bk g2 nu ++ wt) := by
  rw [xD_iff] at hD ⊢
  refine ⟨hD.1, fun q hq => ?_⟩
  have hm : q.1 ∈ (tw cy ad nS nB st bk g2 nu ++ wt).map Prod.fst := List.mem_map.mpr ⟨q, hq, rfl⟩
  have hm2 : q.1 ∈ (tw cy ad nS nB st bk g nu ++ wt).map Prod.fst := hm
  obtain ⟨q2, h2, e2⟩ := List.mem_map.mp hm2
  rw [← e2]
  exact hD.2 q2 h2
end GATE
theorem rS_zero (ad : Nat → Nat) : rS ad 0 = fun _ => none := by funext k; unfold rS; rw [if_neg (by omega)]
theorem rB_zero (ad : Nat → Nat) : rB ad 0 = fun _ => none := by funext k; unfold rB; rw [if_neg (by omega)]
def adT (a b c d : Nat) : Nat → Nat := fun k => if k = 0 then a else if k = 1 then b else if k = 2 then c else d
def nu0 : Iu := upd (fun _ => 0) 1 20
set_option maxHeartbeats 4000000 in
set_option maxRecDepth 100000 in
/-- becomeLike -/
theorem c_X2_becomeLike (l : Launch) (D : va_G) (cy : Nat → ClassId) (ad ao : Nat → Nat) (nS nB mS mB : Nat) (st bk so bo : Nat → Iu) (gate nu go no : Iu) (hSM : nS ≤ mS) (hM : mS ≤ 4) (hBM : nB ≤ mB) (hMB : mB ≤ 6) (hb7 : ∀ j, j < mB → bo j 7 = 0 ∨ bo j 7 = 1) : xM l D cy yX2_becomeLike wsX2_becomeLike ({ frames := 3, cells := 10, slots := 60, locals := 80 } : Room) [.ref (ad 0), .ref (ao 0)] (tw cy ad nS nB st bk gate nu ++ tw cy ao mS mB so bo go no) (fun _ : Nat → Nat => none) (fun a => ∀ j, j < 4 → a j = ad j) (fun a => tw cy a mS mB so bo go no ++ tw cy ao mS mB so bo go no) := by
  refine xM.of cX2_becomeLike 3 none RX2 (by decide +kernel) rfl rfl (Nat.le_of_ble_eq_true rfl) ?_
  intro p e s m below meth c A ls hx hb hr hts hown hlocks hml hin hK hA hP hD hS hl
  have hl : lv_has ls 3 [(0, .ref (ad 0)), (1, .ref (ao 0))] := hl
  have hinX2 : ∀ w ∈ wsX20, w ∈ wsX2_becomeLike := fun _ h => List.mem_cons_of_mem _ (List.mem_append_left _ (List.mem_append_left _ (List.mem_append_right _ h)))
  refine lv_aload_n hx hb dX2_becomeLike_0 rfl (lv_at hl 0 rfl) ?_
  refine lv_aload_n hx hb dX2_becomeLike_1 rfl (lv_at hl 1 rfl) ?_
  refine va_get (D := D) (ci := 2) (v := .int (no 0)) (C := RX2) (T := TX2) (N := 9) hx hb hts hinX2 hown hK.1 (xP_app.mp hP).2 0 rfl rfl 3 (by decide) (hts (.fieldLink RX2 31 "LoafMarks$Town" "hour" "I") (List.mem_of_getElem? (i := 1) rfl)) (fun _ h9 => h9) rfl dX2_becomeLike_2 ?_
  refine va_put (D := D) (ci := 2) (v := .int (no 0)) (ty := .int) (C := RX2) (T := TX2) (N := 9) hx hb hts hinX2 tyX2 tyX2_ok nmX2 hown hK.1 hP hD hS 0 rfl rfl 3 (by decide) (hts (.fieldLink RX2 31 "LoafMarks$Town" "hour" "I") (List.mem_of_getElem? (i := 1) rfl)) (fun _ h9 => h9) rfl (by decide +kernel) rfl rfl (Nat.le_of_ble_eq_true rfl) dX2_becomeLike_5 (fun H locs hP hD hS => ?_)
  have hP : va_P D vwCl (tw cy ad nS nB st bk gate (upd nu 0 (no 0)) ++ tw cy ao mS mB so bo go no) H := hP
  have hD : va_D A (tw cy ad nS nB st bk gate (upd nu 0 (no 0)) ++ tw cy ao mS mB so bo go no) := hD
  refine lv_aload_n hx hb dX2_becomeLike_8 rfl (lv_at hl 0 rfl) ?_
  refine lv_aload_n hx hb dX2_becomeLike_9 rfl (lv_at hl 1 rfl) ?_
  refine va_get (D := D) (ci := 2) (v := .int (no 1)) (C := RX2) (T := TX2) (N := 9) hx hb hts hinX2 hown hK.1 (xP_app.mp hP).2 0 rfl rfl 4 (by decide) (hts (.fieldLink RX2 27 "LoafMarks$Town" "people" "I") (List.mem_of_getElem? (i := 2) rfl)) (fun _ h9 => h9) rfl dX2_becomeLike_10 ?_
  refine va_put (D := D) (ci := 2) (v := .int (no 1)) (ty := .int) (C := RX2) (T := TX2) (N := 9) hx hb hts hinX2 tyX2 tyX2_ok nmX2 hown hK.1 hP hD hS 0 rfl rfl 4 (by decide) (hts (.fieldLink RX2 27 "LoafMarks$Town" "people" "I") (List.mem_of_getElem? (i := 2) rfl)) (fun _ h9 => h9) rfl (by decide +kernel) rfl rfl (Nat.le_of_ble_eq_true rfl) dX2_becomeLike_13 (fun H locs hP hD hS => ?_)
  have hP : va_P D vwCl (tw cy ad nS nB st bk gate (upd (upd nu 0 (no 0)) 1 (no 1)) ++ tw cy ao mS mB so bo go no) H := hP
  have hD : va_D A (tw cy ad nS nB st bk gate (upd (upd nu 0 (no 0)) 1 (no 1)) ++ tw cy ao mS mB so bo go no) := hD
  refine lv_aload_n hx hb dX2_becomeLike_16 rfl (lv_at hl 0 rfl) ?_
  refine lv_aload_n hx hb dX2_becomeLike_17 rfl (lv_at hl 1 rfl) ?_
  refine va_get (D := D) (ci := 2) (v := .int (no 2)) (C := RX2) (T := TX2) (N := 9) hx hb hts hinX2 hown hK.1 (xP_app.mp hP).2 0 rfl rfl 5 (by decide) (hts (.fieldLink RX2 34 "LoafMarks$Town" "bought" "I") (List.mem_of_getElem? (i := 3) rfl)) (fun _ h9 => h9) rfl dX2_becomeLike_18 ?_
  refine va_put (D := D) (ci := 2) (v := .int (no 2)) (ty := .int) (C := RX2) (T := TX2) (N := 9) hx hb hts hinX2 tyX2 tyX2_ok nmX2 hown hK.1 hP hD hS 0 rfl rfl 5 (by decide) (hts (.fieldLink RX2 34 "LoafMarks$Town" "bought" "I") (List.mem_of_getElem? (i := 3) rfl)) (fun _ h9 => h9) rfl (by decide +kernel) rfl rfl (Nat.le_of_ble_eq_true rfl) dX2_becomeLike_21 (fun H locs hP hD hS => ?_)
  have hP : va_P D vwCl (tw cy ad nS nB st bk gate (upd (upd (upd nu 0 (no 0)) 1 (no 1)) 2 (no 2)) ++ tw cy ao mS mB so bo go no) H := hP
  have hD : va_D A (tw cy ad nS nB st bk gate (upd (upd (upd nu 0 (no 0)) 1 (no 1)) 2 (no 2)) ++ tw cy ao mS mB so bo go no) := hD
  refine lv_aload_n hx hb dX2_becomeLike_24 rfl (lv_at hl 0 rfl) ?_
  refine lv_aload_n hx hb dX2_becomeLike_25 rfl (lv_at hl 1 rfl) ?_
  refine va_get (D := D) (ci := 2) (v := .int (no 3)) (C := RX2) (T := TX2) (N := 9) hx hb hts hinX2 hown hK.1 (xP_app.mp hP).2 0 rfl rfl 6 (by decide) (hts (.fieldLink RX2 37 "LoafMarks$Town" "light" "I") (List.mem_of_getElem? (i := 4) rfl)) (fun _ h9 => h9) rfl dX2_becomeLike_26 ?_
  refine va_put (D := D) (ci := 2) (v := .int (no 3)) (ty := .int) (C := RX2) (T := TX2) (N := 9) hx hb hts hinX2 tyX2 tyX2_ok nmX2 hown hK.1 hP hD hS 0 rfl rfl 6 (by decide) (hts (.fieldLink RX2 37 "LoafMarks$Town" "light" "I") (List.mem_of_getElem? (i := 4) rfl)) (fun _ h9 => h9) rfl (by decide +kernel) rfl rfl (Nat.le_of_ble_eq_true rfl) dX2_becomeLike_29 (fun H locs hP hD hS => ?_)
  have hP : va_P D vwCl (tw cy ad nS nB st bk gate (upd (upd (upd (upd nu 0 (no 0)) 1 (no 1)) 2 (no 2)) 3 (no 3)) ++ tw cy ao mS mB so bo go no) H := hP
  have hD : va_D A (tw cy ad nS nB st bk gate (upd (upd (upd (upd nu 0 (no 0)) 1 (no 1)) 2 (no 2)) 3 (no 3)) ++ tw cy ao mS mB so bo go no) := hD
  refine lv_aload_n hx hb dX2_becomeLike_32 rfl (lv_at hl 0 rfl) ?_
  refine lv_aload_n hx hb dX2_becomeLike_33 rfl (lv_at hl 1 rfl) ?_
  refine va_get (D := D) (ci := 2) (v := .int (no 4)) (C := RX2) (T := TX2) (N := 9) hx hb hts hinX2 hown hK.1 (xP_app.mp hP).2 0 rfl rfl 7 (by decide) (hts (.fieldLink RX2 40 "LoafMarks$Town" "hungry" "I") (List.mem_of_getElem? (i := 5) rfl)) (fun _ h9 => h9) rfl dX2_becomeLike_34 ?_
  refine va_put (D := D) (ci := 2) (v := .int (no 4)) (ty := .int) (C := RX2) (T := TX2) (N := 9) hx hb hts hinX2 tyX2 tyX2_ok nmX2 hown hK.1 hP hD hS 0 rfl rfl 7 (by decide) (hts (.fieldLink RX2 40 "LoafMarks$Town" "hungry" "I") (List.mem_of_getElem? (i := 5) rfl)) (fun _ h9 => h9) rfl (by decide +kernel) rfl rfl (Nat.le_of_ble_eq_true rfl) dX2_becomeLike_37 (fun H locs hP hD hS => ?_)
  have hP : va_P D vwCl (tw cy ad nS nB st bk gate (upd (upd (upd (upd (upd nu 0 (no 0)) 1 (no 1)) 2 (no 2)) 3 (no 3)) 4 (no 4)) ++ tw cy ao mS mB so bo go no) H := hP
  have hD : va_D A (tw cy ad nS nB st bk gate (upd (upd (upd (upd (upd nu 0 (no 0)) 1 (no 1)) 2 (no 2)) 3 (no 3)) 4 (no 4)) ++ tw cy ao mS mB so bo go no) := hD
  refine lv_aload_n hx hb dX2_becomeLike_40 rfl (lv_at hl 0 rfl) ?_
  refine lv_aload_n hx hb dX2_becomeLike_41 rfl (lv_at hl 1 rfl) ?_
  refine va_get (D := D) (ci := 2) (v := .int (no 5)) (C := RX2) (T := TX2) (N := 9) hx hb hts hinX2 hown hK.1 (xP_app.mp hP).2 0 rfl rfl 8 (by decide) (hts (.fieldLink RX2 43 "LoafMarks$Town" "lost" "I") (List.mem_of_getElem? (i := 6) rfl)) (fun _ h9 => h9) rfl dX2_becomeLike_42 ?_
  refine va_put (D := D) (ci := 2) (v := .int (no 5)) (ty := .int) (C := RX2) (T := TX2) (N := 9) hx hb hts hinX2 tyX2 tyX2_ok nmX2 hown hK.1 hP hD hS 0 rfl rfl 8 (by decide) (hts (.fieldLink RX2 43 "LoafMarks$Town" "lost" "I") (List.mem_of_getElem? (i := 6) rfl)) (fun _ h9 => h9) rfl (by decide +kernel) rfl rfl (Nat.le_of_ble_eq_true rfl) dX2_becomeLike_45 (fun H locs hP hD hS => ?_)
  have hP : va_P D vwCl (tw cy ad nS nB st bk gate (upd (upd (upd (upd (upd (upd nu 0 (no 0)) 1 (no 1)) 2 (no 2)) 3 (no 3)) 4 (no 4)) 5 (no 5)) ++ tw cy ao mS mB so bo go no) H := hP
  have hD : va_D A (tw cy ad nS nB st bk gate (upd (upd (upd (upd (upd (upd nu 0 (no 0)) 1 (no 1)) 2 (no 2)) 3 (no 3)) 4 (no 4)) 5 (no 5)) ++ tw cy ao mS mB so bo go no) := hD
  refine lv_iconst (v := 0) hx hb dX2_becomeLike_48 (by decide) ?_
  refine lv_istore_n (lv' := [(2, .int 0), (0, .ref (ad 0)), (1, .ref (ao 0))]) hx hb dX2_becomeLike_49 rfl hl (by decide) rfl (fun ls hl => ?_)
  have loop : ∀ (n i : Nat) (g : Iu) (H : Heap) (locs : List Loc) (ls : Array Slot), i + n = 24 → (∀ j, j < i → g j = go j) → va_P D vwCl (tw cy ad nS nB st bk g (upd (upd (upd (upd (upd (upd nu 0 (no 0)) 1 (no 1)) 2 (no 2)) 3 (no 3)) 4 (no 4)) 5 (no 5)) ++ tw cy ao mS mB so bo go no) H → va_D A (tw cy ad nS nB st bk g (upd (upd (upd (upd (upd (upd nu 0 (no 0)) 1 (no 1)) 2 (no 2)) 3 (no 3)) 4 (no 4)) 5 (no 5)) ++ tw cy ao mS mB so bo go no) → va_S A s.heap H locs → lv_has ls 3 [(0, .ref (ad 0)), (1, .ref (ao 0)), (2, .int (nI i))] → W p l e ({ frames := 3, cells := 10, slots := 60, locals := 80 } : Room) s m ([.ref (ad 0), .ref (ao 0)] : List Value).toArray below meth c H locs 0 0 (MQ below (xQ D A (fun _ : Nat → Nat => none) (fun a => ∀ j, j < 4 → a j = ad j) (fun a => tw cy a mS mB so bo go no ++ tw cy ao mS mB so bo go no)) ([.ref (ad 0), .ref (ao 0)] : List Value).toArray s 10 60 A) (F0 m 50 ls []) := by
    intro n
    induction n with
    | zero =>
      intro i g H locs ls hns hinv hP hD hS hl
      have hii : i = 24 := by omega
      refine lv_iload_n hx hb dX2_becomeLike_50 rfl (lv_at hl 2 rfl) ?_
      refine lv_aload_n hx hb dX2_becomeLike_51 rfl (lv_at hl 0 rfl) ?_
      refine va_get (D := D) (ci := 2) (v := .ref (ad 1)) (C := RX2) (T := TX2) (N := 9) hx hb hts hinX2 hown hK.1 hP 0 rfl rfl 0 (by decide) (hts (.fieldLink RX2 9 "LoafMarks$Town" "gate" "[I") (List.mem_of_getElem? (i := 7) rfl)) (fun _ h9 => h9) rfl dX2_becomeLike_52 ?_
      refine va_alen hx hb hK.1 hP 1 0 rfl rfl (v := 24) rfl dX2_becomeLike_55 ?_
      refine lv_icmp_ge (tgt := 76) hx hb dX2_becomeLike_56 (by decide) (fun _ => ?_) (fun h => absurd (by rw [hii]; exact Int32.le_refl _) h)
      refine lv_aload_n hx hb dX2_becomeLike_76 rfl (lv_at hl 0 rfl) ?_
      refine lv_aload_n hx hb dX2_becomeLike_77 rfl (lv_at hl 1 rfl) ?_
      refine xcV (As := [.ref (ao 0)]) (rest := []) ⟨hx, hb, hml, hown, hts⟩ (c_X2_copyStores l D cy ad ao nS nB mS mB st bk so bo g (upd (upd (upd (upd (upd (upd nu 0 (no 0)) 1 (no 1)) 2 (no 2)) 3 (no 3)) 4 (no 4)) 5 (no 5)) go no hSM hM) (cwV 1 hts gX2_becomeLike_X2_copyStores rfl rfl rfl (by decide +kernel) ⟨Nat.le_of_ble_eq_true rfl, Nat.le_of_ble_eq_true rfl⟩) hK hP hD hS hA rfl rfl rfl (xE_all) rfl hl.1 rfl (Nat.le_of_ble_eq_true rfl) dX2_becomeLike_78 ⟨Nat.le_of_ble_eq_true rfl, Nat.le_of_ble_eq_true rfl⟩ (fun a H locs ha hP hD hS => ?_)
      have hP : va_P D vwCl (tw cy a mS nB so bk g (upd (upd (upd (upd (upd (upd nu 0 (no 0)) 1 (no 1)) 2 (no 2)) 3 (no 3)) 4 (no 4)) 5 (no 5)) ++ tw cy ao mS mB so bo go no) H := hP
      have hD : va_D A (tw cy a mS nB so bk g (upd (upd (upd (upd (upd (upd nu 0 (no 0)) 1 (no 1)) 2 (no 2)) 3 (no 3)) 4 (no 4)) 5 (no 5)) ++ tw cy ao mS mB so bo go no) := hD
      refine W.eq (g2 := F0 m 81 ls []) rfl ?_
      refine lv_aload_n hx hb dX2_becomeLike_81 rfl (lv_at hl 0 rfl) ?_
      refine lv_aload_n hx hb dX2_becomeLike_82 rfl (lv_at hl 1 rfl) ?_
      refine W.eq (g2 := F0 m 83 ls [.ref (ao 0), .ref (a 0)]) (by rw [ha 0 (Or.inl (by decide))]) ?_
      refine xcV (As := [.ref (ao 0)]) (rest := []) ⟨hx, hb, hml, hown, hts⟩ (c_X2_copyBakers l D cy a ao mS nB mS mB so bk so bo g (upd (upd (upd (upd (upd (upd nu 0 (no 0)) 1 (no 1)) 2 (no 2)) 3 (no 3)) 4 (no 4)) 5 (no 5)) go no hBM hMB hM hb7) (cwV 1 hts gX2_becomeLike_X2_copyBakers rfl rfl rfl (by decide +kernel) ⟨Nat.le_of_ble_eq_true rfl, Nat.le_of_ble_eq_true rfl⟩) hK hP hD hS hA rfl rfl rfl (xE_all) rfl hl.1 rfl (Nat.le_of_ble_eq_true rfl) dX2_becomeLike_83 ⟨Nat.le_of_ble_eq_true rfl, Nat.le_of_ble_eq_true rfl⟩ (fun a2 H locs ha2 hP hD hS => ?_)
      have hP : va_P D vwCl (tw cy a2 mS mB so bo g (upd (upd (upd (upd (upd (upd nu 0 (no 0)) 1 (no 1)) 2 (no 2)) 3 (no 3)) 4 (no 4)) 5 (no 5)) ++ tw cy ao mS mB so bo go no) H := hP
      have hD : va_D A (tw cy a2 mS mB so bo g (upd (upd (upd (upd (upd (upd nu 0 (no 0)) 1 (no 1)) 2 (no 2)) 3 (no 3)) 4 (no 4)) 5 (no 5)) ++ tw cy ao mS mB so bo go no) := hD
      refine W.eq (g2 := F0 m 86 ls []) rfl ?_
      exact xrv a2 hx hb hr hlocks hS (Nat.le_of_ble_eq_true rfl) (Nat.le_of_ble_eq_true rfl) dX2_becomeLike_86 (tw_gateP (nu := no) (fun j hj => hinv j (by omega)) hP) (tw_gateD (nu := no) (g := g) hD) rfl (fun j hj => (ha2 j (by omega)).trans (ha j (Or.inl hj)))
    | succ n ih =>
      intro i g H locs ls hns hinv hP hD hS hl
      have hlt : i < 24 := by omega
      refine lv_iload_n hx hb dX2_becomeLike_50 rfl (lv_at hl 2 rfl) ?_
      refine lv_aload_n hx hb dX2_becomeLike_51 rfl (lv_at hl 0 rfl) ?_
      refine va_get (D := D) (ci := 2) (v := .ref (ad 1)) (C := RX2) (T := TX2) (N := 9) hx hb hts hinX2 hown hK.1 hP 0 rfl rfl 0 (by decide) (hts (.fieldLink RX2 9 "LoafMarks$Town" "gate" "[I") (List.mem_of_getElem? (i := 7) rfl)) (fun _ h9 => h9) rfl dX2_becomeLike_52 ?_
      refine va_alen hx hb hK.1 hP 1 0 rfl rfl (v := 24) rfl dX2_becomeLike_55 ?_
      refine lv_icmp_ge (tgt := 76) hx hb dX2_becomeLike_56 (by decide) (fun h => absurd h (nI_ge (b := 24) hlt (by omega))) (fun _ => ?_)
      refine lv_aload_n hx hb dX2_becomeLike_59 rfl (lv_at hl 0 rfl) ?_
      refine va_get (D := D) (ci := 2) (v := .ref (ad 1)) (C := RX2) (T := TX2) (N := 9) hx hb hts hinX2 hown hK.1 hP 0 rfl rfl 0 (by decide) (hts (.fieldLink RX2 9 "LoafMarks$Town" "gate" "[I") (List.mem_of_getElem? (i := 7) rfl)) (fun _ h9 => h9) rfl dX2_becomeLike_60 ?_
      refine lv_iload_n hx hb dX2_becomeLike_63 rfl (lv_at hl 2 rfl) ?_
      refine lv_aload_n hx hb dX2_becomeLike_64 rfl (lv_at hl 1 rfl) ?_
      refine lv_iload_n hx hb dX2_becomeLike_65 rfl (lv_at hl 2 rfl) ?_
      refine xcV (As := [.int (nI i)]) (rest := [.int (nI i), .ref (ad 1)]) ⟨hx, hb, hml, hown, hts⟩ (c_X2_gateAt l D cy ao mS mB so bo go no i (by omega)) (cwV 1 hts gX2_becomeLike_X2_gateAt rfl rfl rfl (by decide +kernel) ⟨Nat.le_of_ble_eq_true rfl, Nat.le_of_ble_eq_true rfl⟩) hK hP hD hS hA rfl rfl rfl (xE_r) rfl hl.1 rfl (Nat.le_of_ble_eq_true rfl) dX2_becomeLike_66 ⟨Nat.le_of_ble_eq_true rfl, Nat.le_of_ble_eq_true rfl⟩ (fun _ H locs _ hP hD hS => ?_)
      have hP : va_P D vwCl (tw cy ad nS nB st bk g (upd (upd (upd (upd (upd (upd nu 0 (no 0)) 1 (no 1)) 2 (no 2)) 3 (no 3)) 4 (no 4)) 5 (no 5)) ++ tw cy ao mS mB so bo go no) H := hP
      have hD : va_D A (tw cy ad nS nB st bk g (upd (upd (upd (upd (upd (upd nu 0 (no 0)) 1 (no 1)) 2 (no 2)) 3 (no 3)) 4 (no 4)) 5 (no 5)) ++ tw cy ao mS mB so bo go no) := hD
      refine W.eq (g2 := F0 m 69 ls [.int (go i), .int (nI i), .ref (ad 1)]) rfl ?_
      refine xiast hx hb hK hP hD hS 1 rfl i rfl (by omega) (by decide) dX2_becomeLike_69 (fun H locs hP hD hS => ?_)
      have hP : va_P D vwCl (tw cy ad nS nB st bk (upd g i (go i)) (upd (upd (upd (upd (upd (upd nu 0 (no 0)) 1 (no 1)) 2 (no 2)) 3 (no 3)) 4 (no 4)) 5 (no 5)) ++ tw cy ao mS mB so bo go no) H := hP
      have hD : va_D A (tw cy ad nS nB st bk (upd g i (go i)) (upd (upd (upd (upd (upd (upd nu 0 (no 0)) 1 (no 1)) 2 (no 2)) 3 (no 3)) 4 (no 4)) 5 (no 5)) ++ tw cy ao mS mB so bo go no) := hD
      refine lv_iinc (v := (nI (i + 1))) (lv' := [(2, .int (nI (i + 1))), (0, .ref (ad 0)), (1, .ref (ao 0))]) hx hb dX2_becomeLike_70 hl (k := 2) rfl ((nI_1 i)) (by decide) rfl (fun ls hl => ?_)
      refine lv_goto (tgt := 50) hx hb dX2_becomeLike_73 (by decide) ?_
      exact ih (i + 1) (upd g i (go i)) _ _ _ (by omega) (fun j hj => (Decidable.em (j = i)).elim (fun hji => by subst hji; exact upd_at) (fun hji => by rw [upd_ne hji]; exact hinv j (by omega))) hP hD hS (lv_sub hl [1, 2, 0] rfl)
  exact loop 24 0 gate _ _ _ (by omega) (fun j hj => absurd hj (by omega)) hP hD hS (lv_sub hl [1, 2, 0] rfl)

set_option maxHeartbeats 4000000 in
set_option maxRecDepth 100000 in
/-- Town() -/
theorem c_X2_init (l : Launch) (D : va_G) (cy : Nat → ClassId) (h : Nat) : xM l D cy yX2_init wsX2_init ({ frames := 1, cells := 3, slots := 34, locals := 12 } : Room) [.ref h] ([(h, .inr (2, [.null, .null, .null, .int 0, .int 0, .int 0, .int 0, .int 0, .int 0]))]) (fun _ : Nat → Nat => none) (fun a => a 0 = h) (fun a => tw cy a 0 0 (fun _ _ => 0) (fun _ _ => 0) (fun _ => 0) nu0) := by
  refine xM.of cX2_init 1 none RX2 (by decide +kernel) rfl rfl (Nat.le_of_ble_eq_true rfl) ?_
  intro p e s m below meth c A ls hx hb hr hts hown hlocks hml hin hK hA hP hD hS hl
  have hl : lv_has ls 1 [(0, .ref h)] := hl
  have hinX2 : ∀ w ∈ wsX20, w ∈ wsX2_init := fun _ h => List.mem_cons_of_mem _ (List.mem_append_right _ h)
  refine lv_aload_n hx hb dX2_init_0 rfl (lv_at hl 0 rfl) ?_
  refine W.objInit hx hb hown (hts (.methodLink RX2 3 objectInit) (List.mem_of_getElem? (i := 1) rfl)) (hts (.instanceMethod objectInit) (List.mem_of_getElem? (i := 2) rfl)) (hts (.code objectInit ⟨#[0xb1]⟩ 1 none) (List.mem_of_getElem? (i := 3) rfl)) rfl (by rw [hml]; exact hl.1) rfl dX2_init_1 (Nat.le_of_ble_eq_true rfl) (Nat.le_of_ble_eq_true rfl) ?_
  refine W.eq (g2 := F0 m 4 ls []) rfl ?_
  refine lv_aload_n hx hb dX2_init_4 rfl (lv_at hl 0 rfl) ?_
  refine lv_bipush (v := 24) hx hb dX2_init_5 (by decide) ?_
  refine va_newa (atype := .int) (N' := 24) (a0 := (24, .inl (fun _ => 0))) hx hb (hts (.arrayClass .int) (List.mem_of_getElem? (i := 4) rfl)) rfl hK.1 hP hD hS hA (fun _ => rfl) (by decide) (by decide) (by decide) (Nat.le_of_ble_eq_true rfl) (Nat.le_of_ble_eq_true rfl) dX2_init_7 (fun q7 cA H hK1 hP hD hS => ?_)
  obtain rfl : cA = cy 0 := x_cA hK.1 hK1 (i := 0) rfl rfl
  have hP : va_P D vwCl ([(h, .inr (2, [.null, .null, .null, .int 0, .int 0, .int 0, .int 0, .int 0, .int 0])), (q7, .inl (cy 0, 24, .inl (fun _ => 0)))]) H := hP
  have hD : va_D A ([(h, .inr (2, [.null, .null, .null, .int 0, .int 0, .int 0, .int 0, .int 0, .int 0])), (q7, .inl (cy 0, 24, .inl (fun _ => 0)))]) := hD
  refine va_putF (D := D) (ci := 2) (v := .ref q7) (ty := .array .int) (C := RX2) (T := TX2) (N := 9) hx hb hts hinX2 tyX2 tyX2_ok nmX2 hown hK.1 hP hD hS 0 rfl rfl 0 (by decide) (hts (.fieldLink RX2 9 "LoafMarks$Town" "gate" "[I") (List.mem_of_getElem? (i := 5) rfl)) (fun _ h9 => h9) rfl hin rfl (by decide +kernel) rfl rfl (Nat.le_of_ble_eq_true rfl) dX2_init_9 (fun H locs hP hD hS => ?_)
  have hP : va_P D vwCl ([(h, .inr (2, [.ref q7, .null, .null, .int 0, .int 0, .int 0, .int 0, .int 0, .int 0])), (q7, .inl (cy 0, 24, .inl (fun _ => 0)))]) H := hP
  have hD : va_D A ([(h, .inr (2, [.ref q7, .null, .null, .int 0, .int 0, .int 0, .int 0, .int 0, .int 0])), (q7, .inl (cy 0, 24, .inl (fun _ => 0)))]) := hD
  refine lv_aload_n hx hb dX2_init_12 rfl (lv_at hl 0 rfl) ?_
  refine lv_iconst (v := 4) hx hb dX2_init_13 (by decide) ?_
  refine va_newq (C := RX1) (N' := 4) hx hb hown (hts (.classLink RX2 15 RX1) (List.mem_of_getElem? (i := 6) rfl)) hK.2.1 hK.1 hP hD hS hA (by decide) (by decide) (by decide) (Nat.le_of_ble_eq_true rfl) (Nat.le_of_ble_eq_true rfl) dX2_init_14 (fun q14 cA H hK1 hP hD hS => ?_)
  obtain rfl : cA = cy 1 := x_cA hK.1 hK1 (i := 1) rfl rfl
  have hP : va_P D vwCl ([(h, .inr (2, [.ref q7, .null, .null, .int 0, .int 0, .int 0, .int 0, .int 0, .int 0])), (q7, .inl (cy 0, 24, .inl (fun _ => 0))), (q14, .inl (cy 1, 4, .inr (.inr (.inr (.inr (fun _ => none))))))]) H := hP
  have hD : va_D A ([(h, .inr (2, [.ref q7, .null, .null, .int 0, .int 0, .int 0, .int 0, .int 0, .int 0])), (q7, .inl (cy 0, 24, .inl (fun _ => 0))), (q14, .inl (cy 1, 4, .inr (.inr (.inr (.inr (fun _ => none))))))]) := hD
  refine va_putF (D := D) (ci := 2) (v := .ref q14) (ty := .array (.object "LoafMarks$Store")) (C := RX2) (T := TX2) (N := 9) hx hb hts hinX2 tyX2 tyX2_ok nmX2 hown hK.1 hP hD hS 0 rfl rfl 1 (by decide) (hts (.fieldLink RX2 17 "LoafMarks$Town" "stores" "[LLoafMarks$Store;") (List.mem_of_getElem? (i := 7) rfl)) (fun _ h9 => h9) rfl hin rfl (by decide +kernel) rfl rfl (Nat.le_of_ble_eq_true rfl) dX2_init_17 (fun H locs hP hD hS => ?_)
  have hP : va_P D vwCl ([(h, .inr (2, [.ref q7, .ref q14, .null, .int 0, .int 0, .int 0, .int 0, .int 0, .int 0])), (q7, .inl (cy 0, 24, .inl (fun _ => 0))), (q14, .inl (cy 1, 4, .inr (.inr (.inr (.inr (fun _ => none))))))]) H := hP
  have hD : va_D A ([(h, .inr (2, [.ref q7, .ref q14, .null, .int 0, .int 0, .int 0, .int 0, .int 0, .int 0])), (q7, .inl (cy 0, 24, .inl (fun _ => 0))), (q14, .inl (cy 1, 4, .inr (.inr (.inr (.inr (fun _ => none))))))]) := hD
  refine lv_aload_n hx hb dX2_init_20 rfl (lv_at hl 0 rfl) ?_
  refine lv_bipush (v := 6) hx hb dX2_init_21 (by decide) ?_
  refine va_newq (C := RX0) (N' := 6) hx hb hown (hts (.classLink RX2 21 RX0) (List.mem_of_getElem? (i := 8) rfl)) hK.2.2.1 hK.1 hP hD hS hA (by decide) (by decide) (by decide) (Nat.le_of_ble_eq_true rfl) (Nat.le_of_ble_eq_true rfl) dX2_init_23 (fun q23 cA H hK1 hP hD hS => ?_)
  obtain rfl : cA = cy 2 := x_cA hK.1 hK1 (i := 2) rfl rfl
  have hP : va_P D vwCl ([(h, .inr (2, [.ref q7, .ref q14, .null, .int 0, .int 0, .int 0, .int 0, .int 0, .int 0])), (q7, .inl (cy 0, 24, .inl (fun _ => 0))), (q14, .inl (cy 1, 4, .inr (.inr (.inr (.inr (fun _ => none)))))), (q23, .inl (cy 2, 6, .inr (.inr (.inr (.inr (fun _ => none))))))]) H := hP
  have hD : va_D A ([(h, .inr (2, [.ref q7, .ref q14, .null, .int 0, .int 0, .int 0, .int 0, .int 0, .int 0])), (q7, .inl (cy 0, 24, .inl (fun _ => 0))), (q14, .inl (cy 1, 4, .inr (.inr (.inr (.inr (fun _ => none)))))), (q23, .inl (cy 2, 6, .inr (.inr (.inr (.inr (fun _ => none))))))]) := hD
  refine va_putF (D := D) (ci := 2) (v := .ref q23) (ty := .array (.object "LoafMarks$Baker")) (C := RX2) (T := TX2) (N := 9) hx hb hts hinX2 tyX2 tyX2_ok nmX2 hown hK.1 hP hD hS 0 rfl rfl 2 (by decide) (hts (.fieldLink RX2 23 "LoafMarks$Town" "bakers" "[LLoafMarks$Baker;") (List.mem_of_getElem? (i := 9) rfl)) (fun _ h9 => h9) rfl hin rfl (by decide +kernel) rfl rfl (Nat.le_of_ble_eq_true rfl) dX2_init_26 (fun H locs hP hD hS => ?_)
  have hP : va_P D vwCl ([(h, .inr (2, [.ref q7, .ref q14, .ref q23, .int 0, .int 0, .int 0, .int 0, .int 0, .int 0])), (q7, .inl (cy 0, 24, .inl (fun _ => 0))), (q14, .inl (cy 1, 4, .inr (.inr (.inr (.inr (fun _ => none)))))), (q23, .inl (cy 2, 6, .inr (.inr (.inr (.inr (fun _ => none))))))]) H := hP
  have hD : va_D A ([(h, .inr (2, [.ref q7, .ref q14, .ref q23, .int 0, .int 0, .int 0, .int 0, .int 0, .int 0])), (q7, .inl (cy 0, 24, .inl (fun _ => 0))), (q14, .inl (cy 1, 4, .inr (.inr (.inr (.inr (fun _ => none)))))), (q23, .inl (cy 2, 6, .inr (.inr (.inr (.inr (fun _ => none))))))]) := hD
  refine lv_aload_n hx hb dX2_init_29 rfl (lv_at hl 0 rfl) ?_
  refine lv_bipush (v := 20) hx hb dX2_init_30 (by decide) ?_
  refine va_put (D := D) (ci := 2) (v := .int 20) (ty := .int) (C := RX2) (T := TX2) (N := 9) hx hb hts hinX2 tyX2 tyX2_ok nmX2 hown hK.1 hP hD hS 0 rfl rfl 4 (by decide) (hts (.fieldLink RX2 27 "LoafMarks$Town" "people" "I") (List.mem_of_getElem? (i := 10) rfl)) (fun _ h9 => h9) rfl (by decide +kernel) rfl rfl (Nat.le_of_ble_eq_true rfl) dX2_init_32 (fun H locs hP hD hS => ?_)
  have hP : va_P D vwCl ([(h, .inr (2, [.ref q7, .ref q14, .ref q23, .int 0, .int 20, .int 0, .int 0, .int 0, .int 0])), (q7, .inl (cy 0, 24, .inl (fun _ => 0))), (q14, .inl (cy 1, 4, .inr (.inr (.inr (.inr (fun _ => none)))))), (q23, .inl (cy 2, 6, .inr (.inr (.inr (.inr (fun _ => none))))))]) H := hP
  have hD : va_D A ([(h, .inr (2, [.ref q7, .ref q14, .ref q23, .int 0, .int 20, .int 0, .int 0, .int 0, .int 0])), (q7, .inl (cy 0, 24, .inl (fun _ => 0))), (q14, .inl (cy 1, 4, .inr (.inr (.inr (.inr (fun _ => none)))))), (q23, .inl (cy 2, 6, .inr (.inr (.inr (.inr (fun _ => none))))))]) := hD
  have e : tw cy (adT h q7 q14 q23) 0 0 (fun _ _ => 0) (fun _ _ => 0) (fun _ => 0) nu0 = [(h, .inr (2, [.ref q7, .ref q14, .ref q23, .int 0, .int 20, .int 0, .int 0, .int 0, .int 0])), (q7, .inl (cy 0, 24, .inl (fun _ => 0))), (q14, .inl (cy 1, 4, .inr (.inr (.inr (.inr (fun _ => none)))))), (q23, .inl (cy 2, 6, .inr (.inr (.inr (.inr (fun _ => none))))))] := by unfold tw tw4 zS zB; rw [rS_zero, rB_zero]; rfl
  exact xrv (adT h q7 q14 q23) hx hb hr hlocks hS (Nat.le_of_ble_eq_true rfl) (Nat.le_of_ble_eq_true rfl) dX2_init_35 (by rw [e]; exact hP) (by rw [e]; exact hD) rfl rfl
end
section
set_option maxRecDepth 20000 in
theorem ggX3_init_X2_init : GoodIn wsX3_init wsX2_init := goodIn_r _ [10, 11, 2, 3, 12, 13, 14, 15, 16, 17, 18, 19, 20, 21, 22, 23, 24, 25, 26, 27] (by decide +kernel) (by decide +kernel)
set_option maxRecDepth 20000 in
theorem gX3_init_X2_init_n9 : GoodIn wsX3_init (wsX2_init) := ggX3_init_X2_init
theorem dX3_init_0 : decode cX3_init 0 = .ok (.aload_n 0, 1) := by decide +kernel
theorem dX3_init_1 : decode cX3_init 1 = .ok (.invokespecial 1, 3) := by decide +kernel
theorem dX3_init_4 : decode cX3_init 4 = .ok (.aload_n 0, 1) := by decide +kernel
theorem dX3_init_5 : decode cX3_init 5 = .ok (.new 7, 3) := by decide +kernel
theorem dX3_init_8 : decode cX3_init 8 = .ok (.dup, 1) := by decide +kernel
theorem dX3_init_9 : decode cX3_init 9 = .ok (.invokespecial 9, 3) := by decide +kernel
theorem dX3_init_12 : decode cX3_init 12 = .ok (.putfield 10, 3) := by decide +kernel
theorem dX3_init_15 : decode cX3_init 15 = .ok (.aload_n 0, 1) := by decide +kernel
theorem dX3_init_16 : decode cX3_init 16 = .ok (.new 7, 3) := by decide +kernel
theorem dX3_init_19 : decode cX3_init 19 = .ok (.dup, 1) := by decide +kernel
theorem dX3_init_20 : decode cX3_init 20 = .ok (.invokespecial 9, 3) := by decide +kernel
theorem dX3_init_23 : decode cX3_init 23 = .ok (.putfield 16, 3) := by decide +kernel
theorem dX3_init_26 : decode cX3_init 26 = .ok (.return_, 1) := by decide +kernel
set_option maxRecDepth 20000 in
theorem ggX3_setPeople_X3_isWithin : GoodIn wsX3_setPeople wsX3_isWithin := goodIn_r _ [8] (by decide +kernel) (by decide +kernel)
set_option maxRecDepth 20000 in
theorem gX3_setPeople_X3_isWithin : GoodIn wsX3_setPeople (va_wsS RX3 19 yX3_isWithin wsX3_isWithin) := goodIn_app (goodIn_of _ (by decide +kernel)) ggX3_setPeople_X3_isWithin
theorem dX3_setPeople_0 : decode cX3_setPeople 0 = .ok (.iload_n 1, 1) := by decide +kernel
theorem dX3_setPeople_1 : decode cX3_setPeople 1 = .ok (.iconst 0, 1) := by decide +kernel
theorem dX3_setPeople_2 : decode cX3_setPeople 2 = .ok (.sipush 500, 3) := by decide +kernel
theorem dX3_setPeople_5 : decode cX3_setPeople 5 = .ok (.invokestatic 19, 3) := by decide +kernel
theorem dX3_setPeople_8 : decode cX3_setPeople 8 = .ok (.ifCond .ne 13, 3) := by decide +kernel
theorem dX3_setPeople_11 : decode cX3_setPeople 11 = .ok (.new 23, 3) := by decide +kernel
theorem dX3_setPeople_14 : decode cX3_setPeople 14 = .ok (.dup, 1) := by decide +kernel
theorem dX3_setPeople_15 : decode cX3_setPeople 15 = .ok (.ldc 25, 2) := by decide +kernel
theorem dX3_setPeople_17 : decode cX3_setPeople 17 = .ok (.invokespecial 27, 3) := by decide +kernel
theorem dX3_setPeople_20 : decode cX3_setPeople 20 = .ok (.athrow, 1) := by decide +kernel
theorem dX3_setPeople_21 : decode cX3_setPeople 21 = .ok (.aload_n 0, 1) := by decide +kernel
theorem dX3_setPeople_22 : decode cX3_setPeople 22 = .ok (.getfield 10, 3) := by decide +kernel
theorem dX3_setPeople_25 : decode cX3_setPeople 25 = .ok (.getfield 30, 3) := by decide +kernel
theorem dX3_setPeople_28 : decode cX3_setPeople 28 = .ok (.istore_n 2, 1) := by decide +kernel
theorem dX3_setPeople_29 : decode cX3_setPeople 29 = .ok (.aload_n 0, 1) := by decide +kernel
theorem dX3_setPeople_30 : decode cX3_setPeople 30 = .ok (.getfield 10, 3) := by decide +kernel
theorem dX3_setPeople_33 : decode cX3_setPeople 33 = .ok (.iload_n 1, 1) := by decide +kernel
theorem dX3_setPeople_34 : decode cX3_setPeople 34 = .ok (.putfield 30, 3) := by decide +kernel
theorem dX3_setPeople_37 : decode cX3_setPeople 37 = .ok (.iload_n 2, 1) := by decide +kernel
theorem dX3_setPeople_38 : decode cX3_setPeople 38 = .ok (.ireturn, 1) := by decide +kernel
set_option maxRecDepth 20000 in
theorem ggX3_setGate_X3_isWithin : GoodIn wsX3_setGate wsX3_isWithin := goodIn_r _ [9] (by decide +kernel) (by decide +kernel)
set_option maxRecDepth 20000 in
theorem gX3_setGate_X3_isWithin : GoodIn wsX3_setGate (va_wsS RX3 19 yX3_isWithin wsX3_isWithin) := goodIn_app (goodIn_of _ (by decide +kernel)) ggX3_setGate_X3_isWithin
set_option maxRecDepth 20000 in
theorem ggX3_setGate_X2_changeGate : GoodIn wsX3_setGate wsX2_changeGate := goodIn_r _ [14, 15, 16, 17, 18, 13, 19, 22, 23, 24, 25, 26, 27, 28, 29, 30] (by decide +kernel) (by decide +kernel)
set_option maxRecDepth 20000 in
theorem gX3_setGate_X2_changeGate : GoodIn wsX3_setGate (wsV RX3 41 RX2 yX2_changeGate wsX2_changeGate) := goodIn_app (goodIn_of _ (by decide +kernel)) ggX3_setGate_X2_changeGate
theorem dX3_setGate_0 : decode cX3_setGate 0 = .ok (.iload_n 1, 1) := by decide +kernel
theorem dX3_setGate_1 : decode cX3_setGate 1 = .ok (.iconst 0, 1) := by decide +kernel
theorem dX3_setGate_2 : decode cX3_setGate 2 = .ok (.bipush 23, 2) := by decide +kernel
theorem dX3_setGate_4 : decode cX3_setGate 4 = .ok (.invokestatic 19, 3) := by decide +kernel
theorem dX3_setGate_7 : decode cX3_setGate 7 = .ok (.ifCond .ne 13, 3) := by decide +kernel
theorem dX3_setGate_10 : decode cX3_setGate 10 = .ok (.new 34, 3) := by decide +kernel
theorem dX3_setGate_13 : decode cX3_setGate 13 = .ok (.dup, 1) := by decide +kernel
theorem dX3_setGate_14 : decode cX3_setGate 14 = .ok (.ldc 36, 2) := by decide +kernel
theorem dX3_setGate_16 : decode cX3_setGate 16 = .ok (.invokespecial 38, 3) := by decide +kernel
theorem dX3_setGate_19 : decode cX3_setGate 19 = .ok (.athrow, 1) := by decide +kernel
theorem dX3_setGate_20 : decode cX3_setGate 20 = .ok (.iload_n 2, 1) := by decide +kernel
theorem dX3_setGate_21 : decode cX3_setGate 21 = .ok (.iconst 0, 1) := by decide +kernel
theorem dX3_setGate_22 : decode cX3_setGate 22 = .ok (.bipush 99, 2) := by decide +kernel
theorem dX3_setGate_24 : decode cX3_setGate 24 = .ok (.invokestatic 19, 3) := by decide +kernel
theorem dX3_setGate_27 : decode cX3_setGate 27 = .ok (.ifCond .ne 13, 3) := by decide +kernel
theorem dX3_setGate_30 : decode cX3_setGate 30 = .ok (.new 23, 3) := by decide +kernel
theorem dX3_setGate_33 : decode cX3_setGate 33 = .ok (.dup, 1) := by decide +kernel
theorem dX3_setGate_34 : decode cX3_setGate 34 = .ok (.ldc 39, 2) := by decide +kernel
theorem dX3_setGate_36 : decode cX3_setGate 36 = .ok (.invokespecial 27, 3) := by decide +kernel
theorem dX3_setGate_39 : decode cX3_setGate 39 = .ok (.athrow, 1) := by decide +kernel
theorem dX3_setGate_40 : decode cX3_setGate 40 = .ok (.aload_n 0, 1) := by decide +kernel
theorem dX3_setGate_41 : decode cX3_setGate 41 = .ok (.getfield 10, 3) := by decide +kernel
theorem dX3_setGate_44 : decode cX3_setGate 44 = .ok (.iload_n 1, 1) := by decide +kernel
theorem dX3_setGate_45 : decode cX3_setGate 45 = .ok (.iload_n 2, 1) := by decide +kernel
theorem dX3_setGate_46 : decode cX3_setGate 46 = .ok (.invokevirtual 41, 3) := by decide +kernel
theorem dX3_setGate_49 : decode cX3_setGate 49 = .ok (.ireturn, 1) := by decide +kernel
set_option maxRecDepth 20000 in
theorem ggX3_open_X3_isWithin : GoodIn wsX3_open wsX3_isWithin := goodIn_r _ [9] (by decide +kernel) (by decide +kernel)
set_option maxRecDepth 20000 in
theorem gX3_open_X3_isWithin : GoodIn wsX3_open (va_wsS RX3 19 yX3_isWithin wsX3_isWithin) := goodIn_app (goodIn_of _ (by decide +kernel)) ggX3_open_X3_isWithin
set_option maxRecDepth 20000 in
theorem ggX3_open_X2_addStore : GoodIn wsX3_open wsX2_addStore := goodIn_r _ [14, 15, 16, 17, 18, 19, 20, 21, 22, 23, 24, 25, 26, 29, 30, 31, 32, 33, 34, 35, 36, 37, 38, 39, 40] (by decide +kernel) (by decide +kernel)
set_option maxRecDepth 20000 in
theorem gX3_open_X2_addStore : GoodIn wsX3_open (wsV RX3 49 RX2 yX2_addStore wsX2_addStore) := goodIn_app (goodIn_of _ (by decide +kernel)) ggX3_open_X2_addStore
theorem dX3_open_0 : decode cX3_open 0 = .ok (.iload_n 1, 1) := by decide +kernel
theorem dX3_open_1 : decode cX3_open 1 = .ok (.iconst 0, 1) := by decide +kernel
theorem dX3_open_2 : decode cX3_open 2 = .ok (.sipush 900, 3) := by decide +kernel
theorem dX3_open_5 : decode cX3_open 5 = .ok (.invokestatic 19, 3) := by decide +kernel
theorem dX3_open_8 : decode cX3_open 8 = .ok (.ifCond .ne 13, 3) := by decide +kernel
theorem dX3_open_11 : decode cX3_open 11 = .ok (.new 23, 3) := by decide +kernel
theorem dX3_open_14 : decode cX3_open 14 = .ok (.dup, 1) := by decide +kernel
theorem dX3_open_15 : decode cX3_open 15 = .ok (.ldc 45, 2) := by decide +kernel
theorem dX3_open_17 : decode cX3_open 17 = .ok (.invokespecial 27, 3) := by decide +kernel
theorem dX3_open_20 : decode cX3_open 20 = .ok (.athrow, 1) := by decide +kernel
theorem dX3_open_21 : decode cX3_open 21 = .ok (.iload_n 2, 1) := by decide +kernel
theorem dX3_open_22 : decode cX3_open 22 = .ok (.iconst 0, 1) := by decide +kernel
theorem dX3_open_23 : decode cX3_open 23 = .ok (.bipush 50, 2) := by decide +kernel
theorem dX3_open_25 : decode cX3_open 25 = .ok (.invokestatic 19, 3) := by decide +kernel
theorem dX3_open_28 : decode cX3_open 28 = .ok (.ifCond .ne 13, 3) := by decide +kernel
theorem dX3_open_31 : decode cX3_open 31 = .ok (.new 23, 3) := by decide +kernel
theorem dX3_open_34 : decode cX3_open 34 = .ok (.dup, 1) := by decide +kernel
theorem dX3_open_35 : decode cX3_open 35 = .ok (.ldc 47, 2) := by decide +kernel
theorem dX3_open_37 : decode cX3_open 37 = .ok (.invokespecial 27, 3) := by decide +kernel
theorem dX3_open_40 : decode cX3_open 40 = .ok (.athrow, 1) := by decide +kernel
theorem dX3_open_41 : decode cX3_open 41 = .ok (.aload_n 0, 1) := by decide +kernel
theorem dX3_open_42 : decode cX3_open 42 = .ok (.getfield 10, 3) := by decide +kernel
theorem dX3_open_45 : decode cX3_open 45 = .ok (.iload_n 1, 1) := by decide +kernel
theorem dX3_open_46 : decode cX3_open 46 = .ok (.iload_n 2, 1) := by decide +kernel
theorem dX3_open_47 : decode cX3_open 47 = .ok (.invokevirtual 49, 3) := by decide +kernel
theorem dX3_open_50 : decode cX3_open 50 = .ok (.istore_n 3, 1) := by decide +kernel
theorem dX3_open_51 : decode cX3_open 51 = .ok (.iload_n 3, 1) := by decide +kernel
theorem dX3_open_52 : decode cX3_open 52 = .ok (.ifCond .ge 13, 3) := by decide +kernel
theorem dX3_open_55 : decode cX3_open 55 = .ok (.new 52, 3) := by decide +kernel
theorem dX3_open_58 : decode cX3_open 58 = .ok (.dup, 1) := by decide +kernel
theorem dX3_open_59 : decode cX3_open 59 = .ok (.ldc 54, 2) := by decide +kernel
theorem dX3_open_61 : decode cX3_open 61 = .ok (.invokespecial 56, 3) := by decide +kernel
theorem dX3_open_64 : decode cX3_open 64 = .ok (.athrow, 1) := by decide +kernel
theorem dX3_open_65 : decode cX3_open 65 = .ok (.iload_n 3, 1) := by decide +kernel
theorem dX3_open_66 : decode cX3_open 66 = .ok (.ireturn, 1) := by decide +kernel
set_option maxRecDepth 20000 in
theorem ggX3_smoke_X2_storeAt : GoodIn wsX3_smoke wsX2_storeAt := goodIn_r _ [8, 9, 19, 20, 21, 22, 23, 24, 25, 26, 27] (by decide +kernel) (by decide +kernel)
set_option maxRecDepth 20000 in
theorem gX3_smoke_X2_storeAt : GoodIn wsX3_smoke (wsV RX3 57 RX2 yX2_storeAt wsX2_storeAt) := goodIn_app (goodIn_of _ (by decide +kernel)) ggX3_smoke_X2_storeAt
set_option maxRecDepth 20000 in
theorem ggX3_smoke_X1_smokeOut : GoodIn wsX3_smoke wsX1_smokeOut := goodIn_r _ [14, 15, 16, 28, 29, 30] (by decide +kernel) (by decide +kernel)
set_option maxRecDepth 20000 in
theorem gX3_smoke_X1_smokeOut : GoodIn wsX3_smoke (wsV RX3 63 RX1 yX1_smokeOut wsX1_smokeOut) := goodIn_app (goodIn_of _ (by decide +kernel)) ggX3_smoke_X1_smokeOut
theorem dX3_smoke_0 : decode cX3_smoke 0 = .ok (.aload_n 0, 1) := by decide +kernel
theorem dX3_smoke_1 : decode cX3_smoke 1 = .ok (.getfield 10, 3) := by decide +kernel
theorem dX3_smoke_4 : decode cX3_smoke 4 = .ok (.iload_n 1, 1) := by decide +kernel
theorem dX3_smoke_5 : decode cX3_smoke 5 = .ok (.invokevirtual 57, 3) := by decide +kernel
theorem dX3_smoke_8 : decode cX3_smoke 8 = .ok (.astore_n 2, 1) := by decide +kernel
theorem dX3_smoke_9 : decode cX3_smoke 9 = .ok (.aload_n 2, 1) := by decide +kernel
theorem dX3_smoke_10 : decode cX3_smoke 10 = .ok (.ifnonnull 13, 3) := by decide +kernel
theorem dX3_smoke_13 : decode cX3_smoke 13 = .ok (.new 34, 3) := by decide +kernel
theorem dX3_smoke_16 : decode cX3_smoke 16 = .ok (.dup, 1) := by decide +kernel
theorem dX3_smoke_17 : decode cX3_smoke 17 = .ok (.ldc 61, 2) := by decide +kernel
theorem dX3_smoke_19 : decode cX3_smoke 19 = .ok (.invokespecial 38, 3) := by decide +kernel
theorem dX3_smoke_22 : decode cX3_smoke 22 = .ok (.athrow, 1) := by decide +kernel
theorem dX3_smoke_23 : decode cX3_smoke 23 = .ok (.aload_n 2, 1) := by decide +kernel
theorem dX3_smoke_24 : decode cX3_smoke 24 = .ok (.invokevirtual 63, 3) := by decide +kernel
theorem dX3_smoke_27 : decode cX3_smoke 27 = .ok (.ireturn, 1) := by decide +kernel
set_option maxRecDepth 20000 in
theorem ggX3_swear_X2_storeAt : GoodIn wsX3_swear wsX2_storeAt := goodIn_r _ [12, 13, 43, 44, 45, 46, 47, 48, 49, 50, 51] (by decide +kernel) (by decide +kernel)
set_option maxRecDepth 20000 in
theorem gX3_swear_X2_storeAt : GoodIn wsX3_swear (wsV RX3 57 RX2 yX2_storeAt wsX2_storeAt) := goodIn_app (goodIn_of _ (by decide +kernel)) ggX3_swear_X2_storeAt
set_option maxRecDepth 20000 in
theorem ggX3_swear_X3_isWithin : GoodIn wsX3_swear wsX3_isWithin := goodIn_r _ [17] (by decide +kernel) (by decide +kernel)
set_option maxRecDepth 20000 in
theorem gX3_swear_X3_isWithin : GoodIn wsX3_swear (va_wsS RX3 19 yX3_isWithin wsX3_isWithin) := goodIn_app (goodIn_of _ (by decide +kernel)) ggX3_swear_X3_isWithin
set_option maxRecDepth 20000 in
theorem ggX3_swear_X2_bakerWithMark : GoodIn wsX3_swear wsX2_bakerWithMark := goodIn_r _ [21, 22, 23, 43, 44, 45, 46, 47, 48, 49, 50, 51, 52, 53, 54, 55, 56, 57, 58, 59] (by decide +kernel) (by decide +kernel)
set_option maxRecDepth 20000 in
theorem gX3_swear_X2_bakerWithMark : GoodIn wsX3_swear (wsV RX3 75 RX2 yX2_bakerWithMark wsX2_bakerWithMark) := goodIn_app (goodIn_of _ (by decide +kernel)) ggX3_swear_X2_bakerWithMark
set_option maxRecDepth 20000 in
theorem ggX3_swear_X2_addBaker : GoodIn wsX3_swear wsX2_addBaker := goodIn_r _ [27, 22, 28, 29, 30, 31, 32, 33, 34, 35, 36, 37, 38, 39, 40, 43, 44, 45, 46, 47, 48, 49, 50, 51, 52, 53, 54, 55, 56, 57, 58, 59] (by decide +kernel) (by decide +kernel)
set_option maxRecDepth 20000 in
theorem gX3_swear_X2_addBaker : GoodIn wsX3_swear (wsV RX3 81 RX2 yX2_addBaker wsX2_addBaker) := goodIn_app (goodIn_of _ (by decide +kernel)) ggX3_swear_X2_addBaker
theorem dX3_swear_0 : decode cX3_swear 0 = .ok (.aload_n 0, 1) := by decide +kernel
theorem dX3_swear_1 : decode cX3_swear 1 = .ok (.getfield 10, 3) := by decide +kernel
theorem dX3_swear_4 : decode cX3_swear 4 = .ok (.iload_n 1, 1) := by decide +kernel
theorem dX3_swear_5 : decode cX3_swear 5 = .ok (.invokevirtual 57, 3) := by decide +kernel
theorem dX3_swear_8 : decode cX3_swear 8 = .ok (.ifnonnull 13, 3) := by decide +kernel
theorem dX3_swear_11 : decode cX3_swear 11 = .ok (.new 34, 3) := by decide +kernel
theorem dX3_swear_14 : decode cX3_swear 14 = .ok (.dup, 1) := by decide +kernel
theorem dX3_swear_15 : decode cX3_swear 15 = .ok (.ldc 61, 2) := by decide +kernel
theorem dX3_swear_17 : decode cX3_swear 17 = .ok (.invokespecial 38, 3) := by decide +kernel
theorem dX3_swear_20 : decode cX3_swear 20 = .ok (.athrow, 1) := by decide +kernel
theorem dX3_swear_21 : decode cX3_swear 21 = .ok (.iload_n 2, 1) := by decide +kernel
theorem dX3_swear_22 : decode cX3_swear 22 = .ok (.iconst 0, 1) := by decide +kernel
theorem dX3_swear_23 : decode cX3_swear 23 = .ok (.bipush 25, 2) := by decide +kernel
theorem dX3_swear_25 : decode cX3_swear 25 = .ok (.invokestatic 19, 3) := by decide +kernel
theorem dX3_swear_28 : decode cX3_swear 28 = .ok (.ifCond .ne 13, 3) := by decide +kernel
theorem dX3_swear_31 : decode cX3_swear 31 = .ok (.new 23, 3) := by decide +kernel
theorem dX3_swear_34 : decode cX3_swear 34 = .ok (.dup, 1) := by decide +kernel
theorem dX3_swear_35 : decode cX3_swear 35 = .ok (.ldc 69, 2) := by decide +kernel
theorem dX3_swear_37 : decode cX3_swear 37 = .ok (.invokespecial 27, 3) := by decide +kernel
theorem dX3_swear_40 : decode cX3_swear 40 = .ok (.athrow, 1) := by decide +kernel
theorem dX3_swear_41 : decode cX3_swear 41 = .ok (.iload_n 3, 1) := by decide +kernel
theorem dX3_swear_42 : decode cX3_swear 42 = .ok (.iconst 5, 1) := by decide +kernel
theorem dX3_swear_43 : decode cX3_swear 43 = .ok (.bipush 12, 2) := by decide +kernel
theorem dX3_swear_45 : decode cX3_swear 45 = .ok (.invokestatic 19, 3) := by decide +kernel
theorem dX3_swear_48 : decode cX3_swear 48 = .ok (.ifCond .ne 13, 3) := by decide +kernel
theorem dX3_swear_51 : decode cX3_swear 51 = .ok (.new 23, 3) := by decide +kernel
theorem dX3_swear_54 : decode cX3_swear 54 = .ok (.dup, 1) := by decide +kernel
theorem dX3_swear_55 : decode cX3_swear 55 = .ok (.ldc 71, 2) := by decide +kernel
theorem dX3_swear_57 : decode cX3_swear 57 = .ok (.invokespecial 27, 3) := by decide +kernel
theorem dX3_swear_60 : decode cX3_swear 60 = .ok (.athrow, 1) := by decide +kernel
theorem dX3_swear_61 : decode cX3_swear 61 = .ok (.iload 4, 2) := by decide +kernel
theorem dX3_swear_63 : decode cX3_swear 63 = .ok (.iconst 0, 1) := by decide +kernel
theorem dX3_swear_64 : decode cX3_swear 64 = .ok (.bipush 90, 2) := by decide +kernel
theorem dX3_swear_66 : decode cX3_swear 66 = .ok (.invokestatic 19, 3) := by decide +kernel
theorem dX3_swear_69 : decode cX3_swear 69 = .ok (.ifCond .ne 13, 3) := by decide +kernel
theorem dX3_swear_72 : decode cX3_swear 72 = .ok (.new 23, 3) := by decide +kernel
theorem dX3_swear_75 : decode cX3_swear 75 = .ok (.dup, 1) := by decide +kernel
theorem dX3_swear_76 : decode cX3_swear 76 = .ok (.ldc 73, 2) := by decide +kernel
theorem dX3_swear_78 : decode cX3_swear 78 = .ok (.invokespecial 27, 3) := by decide +kernel
theorem dX3_swear_81 : decode cX3_swear 81 = .ok (.athrow, 1) := by decide +kernel
theorem dX3_swear_82 : decode cX3_swear 82 = .ok (.aload_n 0, 1) := by decide +kernel
theorem dX3_swear_83 : decode cX3_swear 83 = .ok (.getfield 10, 3) := by decide +kernel
theorem dX3_swear_86 : decode cX3_swear 86 = .ok (.iload_n 2, 1) := by decide +kernel
theorem dX3_swear_87 : decode cX3_swear 87 = .ok (.invokevirtual 75, 3) := by decide +kernel
theorem dX3_swear_90 : decode cX3_swear 90 = .ok (.ifCond .lt 13, 3) := by decide +kernel
theorem dX3_swear_93 : decode cX3_swear 93 = .ok (.new 52, 3) := by decide +kernel
theorem dX3_swear_96 : decode cX3_swear 96 = .ok (.dup, 1) := by decide +kernel
theorem dX3_swear_97 : decode cX3_swear 97 = .ok (.ldc 79, 2) := by decide +kernel
theorem dX3_swear_99 : decode cX3_swear 99 = .ok (.invokespecial 56, 3) := by decide +kernel
theorem dX3_swear_102 : decode cX3_swear 102 = .ok (.athrow, 1) := by decide +kernel
theorem dX3_swear_103 : decode cX3_swear 103 = .ok (.aload_n 0, 1) := by decide +kernel
theorem dX3_swear_104 : decode cX3_swear 104 = .ok (.getfield 10, 3) := by decide +kernel
theorem dX3_swear_107 : decode cX3_swear 107 = .ok (.iload_n 1, 1) := by decide +kernel
theorem dX3_swear_108 : decode cX3_swear 108 = .ok (.iload_n 2, 1) := by decide +kernel
theorem dX3_swear_109 : decode cX3_swear 109 = .ok (.iload_n 3, 1) := by decide +kernel
theorem dX3_swear_110 : decode cX3_swear 110 = .ok (.iload 4, 2) := by decide +kernel
theorem dX3_swear_112 : decode cX3_swear 112 = .ok (.invokevirtual 81, 3) := by decide +kernel
theorem dX3_swear_115 : decode cX3_swear 115 = .ok (.istore 5, 2) := by decide +kernel
theorem dX3_swear_117 : decode cX3_swear 117 = .ok (.iload 5, 2) := by decide +kernel
theorem dX3_swear_119 : decode cX3_swear 119 = .ok (.ifCond .ge 13, 3) := by decide +kernel
theorem dX3_swear_122 : decode cX3_swear 122 = .ok (.new 52, 3) := by decide +kernel
theorem dX3_swear_125 : decode cX3_swear 125 = .ok (.dup, 1) := by decide +kernel
theorem dX3_swear_126 : decode cX3_swear 126 = .ok (.ldc 85, 2) := by decide +kernel
theorem dX3_swear_128 : decode cX3_swear 128 = .ok (.invokespecial 56, 3) := by decide +kernel
theorem dX3_swear_131 : decode cX3_swear 131 = .ok (.athrow, 1) := by decide +kernel
theorem dX3_swear_132 : decode cX3_swear 132 = .ok (.iload 5, 2) := by decide +kernel
theorem dX3_swear_134 : decode cX3_swear 134 = .ok (.ireturn, 1) := by decide +kernel
set_option maxRecDepth 20000 in
theorem ggX3_deal_X2_bakerAt : GoodIn wsX3_deal wsX2_bakerAt := goodIn_r _ [11, 12, 27, 28, 29, 30, 31, 32, 33, 34, 35] (by decide +kernel) (by decide +kernel)
set_option maxRecDepth 20000 in
theorem gX3_deal_X2_bakerAt : GoodIn wsX3_deal (wsV RX3 87 RX2 yX2_bakerAt wsX2_bakerAt) := goodIn_app (goodIn_of _ (by decide +kernel)) ggX3_deal_X2_bakerAt
set_option maxRecDepth 20000 in
theorem ggX3_deal_X3_isWithin : GoodIn wsX3_deal wsX3_isWithin := goodIn_r _ [16] (by decide +kernel) (by decide +kernel)
set_option maxRecDepth 20000 in
theorem gX3_deal_X3_isWithin : GoodIn wsX3_deal (va_wsS RX3 19 yX3_isWithin wsX3_isWithin) := goodIn_app (goodIn_of _ (by decide +kernel)) ggX3_deal_X3_isWithin
theorem dX3_deal_0 : decode cX3_deal 0 = .ok (.aload_n 0, 1) := by decide +kernel
theorem dX3_deal_1 : decode cX3_deal 1 = .ok (.getfield 10, 3) := by decide +kernel
theorem dX3_deal_4 : decode cX3_deal 4 = .ok (.iload_n 1, 1) := by decide +kernel
theorem dX3_deal_5 : decode cX3_deal 5 = .ok (.invokevirtual 87, 3) := by decide +kernel
theorem dX3_deal_8 : decode cX3_deal 8 = .ok (.astore_n 3, 1) := by decide +kernel
theorem dX3_deal_9 : decode cX3_deal 9 = .ok (.aload_n 3, 1) := by decide +kernel
theorem dX3_deal_10 : decode cX3_deal 10 = .ok (.ifnonnull 13, 3) := by decide +kernel
theorem dX3_deal_13 : decode cX3_deal 13 = .ok (.new 34, 3) := by decide +kernel
theorem dX3_deal_16 : decode cX3_deal 16 = .ok (.dup, 1) := by decide +kernel
theorem dX3_deal_17 : decode cX3_deal 17 = .ok (.ldc 91, 2) := by decide +kernel
theorem dX3_deal_19 : decode cX3_deal 19 = .ok (.invokespecial 38, 3) := by decide +kernel
theorem dX3_deal_22 : decode cX3_deal 22 = .ok (.athrow, 1) := by decide +kernel
theorem dX3_deal_23 : decode cX3_deal 23 = .ok (.iload_n 2, 1) := by decide +kernel
theorem dX3_deal_24 : decode cX3_deal 24 = .ok (.iconst 0, 1) := by decide +kernel
theorem dX3_deal_25 : decode cX3_deal 25 = .ok (.bipush 90, 2) := by decide +kernel
theorem dX3_deal_27 : decode cX3_deal 27 = .ok (.invokestatic 19, 3) := by decide +kernel
theorem dX3_deal_30 : decode cX3_deal 30 = .ok (.ifCond .ne 13, 3) := by decide +kernel
theorem dX3_deal_33 : decode cX3_deal 33 = .ok (.new 23, 3) := by decide +kernel
theorem dX3_deal_36 : decode cX3_deal 36 = .ok (.dup, 1) := by decide +kernel
theorem dX3_deal_37 : decode cX3_deal 37 = .ok (.ldc 73, 2) := by decide +kernel
theorem dX3_deal_39 : decode cX3_deal 39 = .ok (.invokespecial 27, 3) := by decide +kernel
theorem dX3_deal_42 : decode cX3_deal 42 = .ok (.athrow, 1) := by decide +kernel
theorem dX3_deal_43 : decode cX3_deal 43 = .ok (.aload_n 3, 1) := by decide +kernel
theorem dX3_deal_44 : decode cX3_deal 44 = .ok (.getfield 93, 3) := by decide +kernel
theorem dX3_deal_47 : decode cX3_deal 47 = .ok (.istore 4, 2) := by decide +kernel
theorem dX3_deal_49 : decode cX3_deal 49 = .ok (.aload_n 3, 1) := by decide +kernel
theorem dX3_deal_50 : decode cX3_deal 50 = .ok (.iload_n 2, 1) := by decide +kernel
theorem dX3_deal_51 : decode cX3_deal 51 = .ok (.putfield 93, 3) := by decide +kernel
theorem dX3_deal_54 : decode cX3_deal 54 = .ok (.iload 4, 2) := by decide +kernel
theorem dX3_deal_56 : decode cX3_deal 56 = .ok (.ireturn, 1) := by decide +kernel
set_option maxRecDepth 20000 in
theorem ggX3_weigh_X2_bakerAt : GoodIn wsX3_weigh wsX2_bakerAt := goodIn_r _ [11, 12, 35, 36, 37, 38, 39, 40, 41, 42, 43] (by decide +kernel) (by decide +kernel)
set_option maxRecDepth 20000 in
theorem gX3_weigh_X2_bakerAt : GoodIn wsX3_weigh (wsV RX3 87 RX2 yX2_bakerAt wsX2_bakerAt) := goodIn_app (goodIn_of _ (by decide +kernel)) ggX3_weigh_X2_bakerAt
set_option maxRecDepth 20000 in
theorem ggX3_weigh_X0_inspect : GoodIn wsX3_weigh wsX0_inspect := goodIn_r _ [17, 18, 19, 20, 21, 22, 23, 16, 24, 27, 28, 29, 30, 31, 32, 33, 34] (by decide +kernel) (by decide +kernel)
set_option maxRecDepth 20000 in
theorem gX3_weigh_X0_inspect : GoodIn wsX3_weigh (wsV RX3 103 RX0 yX0_inspect wsX0_inspect) := goodIn_app (goodIn_of _ (by decide +kernel)) ggX3_weigh_X0_inspect
theorem dX3_weigh_0 : decode cX3_weigh 0 = .ok (.aload_n 0, 1) := by decide +kernel
theorem dX3_weigh_1 : decode cX3_weigh 1 = .ok (.getfield 10, 3) := by decide +kernel
theorem dX3_weigh_4 : decode cX3_weigh 4 = .ok (.iload_n 1, 1) := by decide +kernel
theorem dX3_weigh_5 : decode cX3_weigh 5 = .ok (.invokevirtual 87, 3) := by decide +kernel
theorem dX3_weigh_8 : decode cX3_weigh 8 = .ok (.astore_n 2, 1) := by decide +kernel
theorem dX3_weigh_9 : decode cX3_weigh 9 = .ok (.aload_n 2, 1) := by decide +kernel
theorem dX3_weigh_10 : decode cX3_weigh 10 = .ok (.ifnonnull 13, 3) := by decide +kernel
theorem dX3_weigh_13 : decode cX3_weigh 13 = .ok (.new 34, 3) := by decide +kernel
theorem dX3_weigh_16 : decode cX3_weigh 16 = .ok (.dup, 1) := by decide +kernel
theorem dX3_weigh_17 : decode cX3_weigh 17 = .ok (.ldc 91, 2) := by decide +kernel
theorem dX3_weigh_19 : decode cX3_weigh 19 = .ok (.invokespecial 38, 3) := by decide +kernel
theorem dX3_weigh_22 : decode cX3_weigh 22 = .ok (.athrow, 1) := by decide +kernel
theorem dX3_weigh_23 : decode cX3_weigh 23 = .ok (.aload_n 2, 1) := by decide +kernel
theorem dX3_weigh_24 : decode cX3_weigh 24 = .ok (.getfield 98, 3) := by decide +kernel
theorem dX3_weigh_27 : decode cX3_weigh 27 = .ok (.ifCond .gt 13, 3) := by decide +kernel
theorem dX3_weigh_30 : decode cX3_weigh 30 = .ok (.new 52, 3) := by decide +kernel
theorem dX3_weigh_33 : decode cX3_weigh 33 = .ok (.dup, 1) := by decide +kernel
theorem dX3_weigh_34 : decode cX3_weigh 34 = .ok (.ldc 101, 2) := by decide +kernel
theorem dX3_weigh_36 : decode cX3_weigh 36 = .ok (.invokespecial 56, 3) := by decide +kernel
theorem dX3_weigh_39 : decode cX3_weigh 39 = .ok (.athrow, 1) := by decide +kernel
theorem dX3_weigh_40 : decode cX3_weigh 40 = .ok (.aload_n 2, 1) := by decide +kernel
theorem dX3_weigh_41 : decode cX3_weigh 41 = .ok (.invokevirtual 103, 3) := by decide +kernel
theorem dX3_weigh_44 : decode cX3_weigh 44 = .ok (.ireturn, 1) := by decide +kernel
set_option maxRecDepth 20000 in
theorem ggX3_pardon_X2_bakerAt : GoodIn wsX3_pardon wsX2_bakerAt := goodIn_r _ [8, 9, 23, 24, 25, 26, 27, 28, 29, 30, 31] (by decide +kernel) (by decide +kernel)
set_option maxRecDepth 20000 in
theorem gX3_pardon_X2_bakerAt : GoodIn wsX3_pardon (wsV RX3 87 RX2 yX2_bakerAt wsX2_bakerAt) := goodIn_app (goodIn_of _ (by decide +kernel)) ggX3_pardon_X2_bakerAt
set_option maxRecDepth 20000 in
theorem ggX3_pardon_X0_forgive : GoodIn wsX3_pardon wsX0_forgive := goodIn_r _ [14, 15, 16, 17, 18, 19, 20, 32, 33, 34, 35, 36, 37, 38, 39] (by decide +kernel) (by decide +kernel)
set_option maxRecDepth 20000 in
theorem gX3_pardon_X0_forgive : GoodIn wsX3_pardon (wsV RX3 106 RX0 yX0_forgive wsX0_forgive) := goodIn_app (goodIn_of _ (by decide +kernel)) ggX3_pardon_X0_forgive
theorem dX3_pardon_0 : decode cX3_pardon 0 = .ok (.aload_n 0, 1) := by decide +kernel
theorem dX3_pardon_1 : decode cX3_pardon 1 = .ok (.getfield 10, 3) := by decide +kernel
theorem dX3_pardon_4 : decode cX3_pardon 4 = .ok (.iload_n 1, 1) := by decide +kernel
theorem dX3_pardon_5 : decode cX3_pardon 5 = .ok (.invokevirtual 87, 3) := by decide +kernel
theorem dX3_pardon_8 : decode cX3_pardon 8 = .ok (.astore_n 2, 1) := by decide +kernel
theorem dX3_pardon_9 : decode cX3_pardon 9 = .ok (.aload_n 2, 1) := by decide +kernel
theorem dX3_pardon_10 : decode cX3_pardon 10 = .ok (.ifnonnull 13, 3) := by decide +kernel
theorem dX3_pardon_13 : decode cX3_pardon 13 = .ok (.new 34, 3) := by decide +kernel
theorem dX3_pardon_16 : decode cX3_pardon 16 = .ok (.dup, 1) := by decide +kernel
theorem dX3_pardon_17 : decode cX3_pardon 17 = .ok (.ldc 91, 2) := by decide +kernel
theorem dX3_pardon_19 : decode cX3_pardon 19 = .ok (.invokespecial 38, 3) := by decide +kernel
theorem dX3_pardon_22 : decode cX3_pardon 22 = .ok (.athrow, 1) := by decide +kernel
theorem dX3_pardon_23 : decode cX3_pardon 23 = .ok (.aload_n 2, 1) := by decide +kernel
theorem dX3_pardon_24 : decode cX3_pardon 24 = .ok (.invokevirtual 106, 3) := by decide +kernel
theorem dX3_pardon_27 : decode cX3_pardon 27 = .ok (.ireturn, 1) := by decide +kernel
set_option maxRecDepth 20000 in
theorem ggX3_store_X2_storeAt : GoodIn wsX3_store wsX2_storeAt := goodIn_r _ [8, 9, 30, 31, 32, 33, 34, 35, 36, 37, 38] (by decide +kernel) (by decide +kernel)
set_option maxRecDepth 20000 in
theorem gX3_store_X2_storeAt : GoodIn wsX3_store (wsV RX3 57 RX2 yX2_storeAt wsX2_storeAt) := goodIn_app (goodIn_of _ (by decide +kernel)) ggX3_store_X2_storeAt
set_option maxRecDepth 20000 in
theorem ggX3_store_X3_isWithin : GoodIn wsX3_store wsX3_isWithin := goodIn_r _ [13] (by decide +kernel) (by decide +kernel)
set_option maxRecDepth 20000 in
theorem gX3_store_X3_isWithin : GoodIn wsX3_store (va_wsS RX3 19 yX3_isWithin wsX3_isWithin) := goodIn_app (goodIn_of _ (by decide +kernel)) ggX3_store_X3_isWithin
set_option maxRecDepth 20000 in
theorem ggX3_store_X2_storeFact : GoodIn wsX3_store wsX2_storeFact := goodIn_r _ [17, 18, 19, 20, 21, 5, 6, 7, 8, 9, 22, 23, 24, 25, 26, 27, 39, 40, 41, 30, 31, 32, 33, 34, 35, 36, 37, 38, 42, 43, 44, 45, 46, 47, 48, 49] (by decide +kernel) (by decide +kernel)
set_option maxRecDepth 20000 in
theorem gX3_store_X2_storeFact : GoodIn wsX3_store (wsV RX3 112 RX2 yX2_storeFact wsX2_storeFact) := goodIn_app (goodIn_of _ (by decide +kernel)) ggX3_store_X2_storeFact
theorem dX3_store_0 : decode cX3_store 0 = .ok (.aload_n 0, 1) := by decide +kernel
theorem dX3_store_1 : decode cX3_store 1 = .ok (.getfield 10, 3) := by decide +kernel
theorem dX3_store_4 : decode cX3_store 4 = .ok (.iload_n 1, 1) := by decide +kernel
theorem dX3_store_5 : decode cX3_store 5 = .ok (.invokevirtual 57, 3) := by decide +kernel
theorem dX3_store_8 : decode cX3_store 8 = .ok (.ifnonnull 13, 3) := by decide +kernel
theorem dX3_store_11 : decode cX3_store 11 = .ok (.new 34, 3) := by decide +kernel
theorem dX3_store_14 : decode cX3_store 14 = .ok (.dup, 1) := by decide +kernel
theorem dX3_store_15 : decode cX3_store 15 = .ok (.ldc 61, 2) := by decide +kernel
theorem dX3_store_17 : decode cX3_store 17 = .ok (.invokespecial 38, 3) := by decide +kernel
theorem dX3_store_20 : decode cX3_store 20 = .ok (.athrow, 1) := by decide +kernel
theorem dX3_store_21 : decode cX3_store 21 = .ok (.iload_n 2, 1) := by decide +kernel
theorem dX3_store_22 : decode cX3_store 22 = .ok (.iconst 0, 1) := by decide +kernel
theorem dX3_store_23 : decode cX3_store 23 = .ok (.iconst 3, 1) := by decide +kernel
theorem dX3_store_24 : decode cX3_store 24 = .ok (.invokestatic 19, 3) := by decide +kernel
theorem dX3_store_27 : decode cX3_store 27 = .ok (.ifCond .ne 13, 3) := by decide +kernel
theorem dX3_store_30 : decode cX3_store 30 = .ok (.new 34, 3) := by decide +kernel
theorem dX3_store_33 : decode cX3_store 33 = .ok (.dup, 1) := by decide +kernel
theorem dX3_store_34 : decode cX3_store 34 = .ok (.ldc 110, 2) := by decide +kernel
theorem dX3_store_36 : decode cX3_store 36 = .ok (.invokespecial 38, 3) := by decide +kernel
theorem dX3_store_39 : decode cX3_store 39 = .ok (.athrow, 1) := by decide +kernel
theorem dX3_store_40 : decode cX3_store 40 = .ok (.aload_n 0, 1) := by decide +kernel
theorem dX3_store_41 : decode cX3_store 41 = .ok (.getfield 10, 3) := by decide +kernel
theorem dX3_store_44 : decode cX3_store 44 = .ok (.iload_n 1, 1) := by decide +kernel
theorem dX3_store_45 : decode cX3_store 45 = .ok (.iload_n 2, 1) := by decide +kernel
theorem dX3_store_46 : decode cX3_store 46 = .ok (.invokevirtual 112, 3) := by decide +kernel
theorem dX3_store_49 : decode cX3_store 49 = .ok (.ireturn, 1) := by decide +kernel
set_option maxRecDepth 20000 in
theorem ggX3_baker_X2_bakerAt : GoodIn wsX3_baker wsX2_bakerAt := goodIn_r _ [8, 9, 29, 30, 31, 32, 33, 34, 35, 36, 37] (by decide +kernel) (by decide +kernel)
set_option maxRecDepth 20000 in
theorem gX3_baker_X2_bakerAt : GoodIn wsX3_baker (wsV RX3 87 RX2 yX2_bakerAt wsX2_bakerAt) := goodIn_app (goodIn_of _ (by decide +kernel)) ggX3_baker_X2_bakerAt
set_option maxRecDepth 20000 in
theorem ggX3_baker_X3_isWithin : GoodIn wsX3_baker wsX3_isWithin := goodIn_r _ [13] (by decide +kernel) (by decide +kernel)
set_option maxRecDepth 20000 in
theorem gX3_baker_X3_isWithin : GoodIn wsX3_baker (va_wsS RX3 19 yX3_isWithin wsX3_isWithin) := goodIn_app (goodIn_of _ (by decide +kernel)) ggX3_baker_X3_isWithin
set_option maxRecDepth 20000 in
theorem ggX3_baker_X0_fact : GoodIn wsX3_baker wsX0_fact := goodIn_r _ [18, 19, 20, 21, 22, 23, 24, 25, 26, 38, 39, 40, 41, 42, 43, 44, 45] (by decide +kernel) (by decide +kernel)
set_option maxRecDepth 20000 in
theorem gX3_baker_X0_fact : GoodIn wsX3_baker (wsV RX3 117 RX0 yX0_fact wsX0_fact) := goodIn_app (goodIn_of _ (by decide +kernel)) ggX3_baker_X0_fact
theorem dX3_baker_0 : decode cX3_baker 0 = .ok (.aload_n 0, 1) := by decide +kernel
theorem dX3_baker_1 : decode cX3_baker 1 = .ok (.getfield 10, 3) := by decide +kernel
theorem dX3_baker_4 : decode cX3_baker 4 = .ok (.iload_n 1, 1) := by decide +kernel
theorem dX3_baker_5 : decode cX3_baker 5 = .ok (.invokevirtual 87, 3) := by decide +kernel
theorem dX3_baker_8 : decode cX3_baker 8 = .ok (.astore_n 3, 1) := by decide +kernel
theorem dX3_baker_9 : decode cX3_baker 9 = .ok (.aload_n 3, 1) := by decide +kernel
theorem dX3_baker_10 : decode cX3_baker 10 = .ok (.ifnonnull 13, 3) := by decide +kernel
theorem dX3_baker_13 : decode cX3_baker 13 = .ok (.new 34, 3) := by decide +kernel
theorem dX3_baker_16 : decode cX3_baker 16 = .ok (.dup, 1) := by decide +kernel
theorem dX3_baker_17 : decode cX3_baker 17 = .ok (.ldc 91, 2) := by decide +kernel
theorem dX3_baker_19 : decode cX3_baker 19 = .ok (.invokespecial 38, 3) := by decide +kernel
theorem dX3_baker_22 : decode cX3_baker 22 = .ok (.athrow, 1) := by decide +kernel
theorem dX3_baker_23 : decode cX3_baker 23 = .ok (.iload_n 2, 1) := by decide +kernel
theorem dX3_baker_24 : decode cX3_baker 24 = .ok (.iconst 0, 1) := by decide +kernel
theorem dX3_baker_25 : decode cX3_baker 25 = .ok (.bipush 7, 2) := by decide +kernel
theorem dX3_baker_27 : decode cX3_baker 27 = .ok (.invokestatic 19, 3) := by decide +kernel
theorem dX3_baker_30 : decode cX3_baker 30 = .ok (.ifCond .ne 13, 3) := by decide +kernel
theorem dX3_baker_33 : decode cX3_baker 33 = .ok (.new 34, 3) := by decide +kernel
theorem dX3_baker_36 : decode cX3_baker 36 = .ok (.dup, 1) := by decide +kernel
theorem dX3_baker_37 : decode cX3_baker 37 = .ok (.ldc 115, 2) := by decide +kernel
theorem dX3_baker_39 : decode cX3_baker 39 = .ok (.invokespecial 38, 3) := by decide +kernel
theorem dX3_baker_42 : decode cX3_baker 42 = .ok (.athrow, 1) := by decide +kernel
theorem dX3_baker_43 : decode cX3_baker 43 = .ok (.aload_n 3, 1) := by decide +kernel
theorem dX3_baker_44 : decode cX3_baker 44 = .ok (.iload_n 2, 1) := by decide +kernel
theorem dX3_baker_45 : decode cX3_baker 45 = .ok (.invokevirtual 117, 3) := by decide +kernel
theorem dX3_baker_48 : decode cX3_baker 48 = .ok (.ireturn, 1) := by decide +kernel
set_option maxRecDepth 20000 in
theorem ggX3_whose_X3_isWithin : GoodIn wsX3_whose wsX3_isWithin := goodIn_r _ [7] (by decide +kernel) (by decide +kernel)
set_option maxRecDepth 20000 in
theorem gX3_whose_X3_isWithin : GoodIn wsX3_whose (va_wsS RX3 19 yX3_isWithin wsX3_isWithin) := goodIn_app (goodIn_of _ (by decide +kernel)) ggX3_whose_X3_isWithin
set_option maxRecDepth 20000 in
theorem ggX3_whose_X2_bakerWithMark : GoodIn wsX3_whose wsX2_bakerWithMark := goodIn_r _ [12, 13, 14, 17, 18, 19, 20, 21, 22, 23, 24, 25, 26, 27, 28, 29, 30, 31, 32, 33] (by decide +kernel) (by decide +kernel)
set_option maxRecDepth 20000 in
theorem gX3_whose_X2_bakerWithMark : GoodIn wsX3_whose (wsV RX3 75 RX2 yX2_bakerWithMark wsX2_bakerWithMark) := goodIn_app (goodIn_of _ (by decide +kernel)) ggX3_whose_X2_bakerWithMark
theorem dX3_whose_0 : decode cX3_whose 0 = .ok (.iload_n 1, 1) := by decide +kernel
theorem dX3_whose_1 : decode cX3_whose 1 = .ok (.iconst 0, 1) := by decide +kernel
theorem dX3_whose_2 : decode cX3_whose 2 = .ok (.bipush 25, 2) := by decide +kernel
theorem dX3_whose_4 : decode cX3_whose 4 = .ok (.invokestatic 19, 3) := by decide +kernel
theorem dX3_whose_7 : decode cX3_whose 7 = .ok (.ifCond .ne 13, 3) := by decide +kernel
theorem dX3_whose_10 : decode cX3_whose 10 = .ok (.new 23, 3) := by decide +kernel
theorem dX3_whose_13 : decode cX3_whose 13 = .ok (.dup, 1) := by decide +kernel
theorem dX3_whose_14 : decode cX3_whose 14 = .ok (.ldc 69, 2) := by decide +kernel
theorem dX3_whose_16 : decode cX3_whose 16 = .ok (.invokespecial 27, 3) := by decide +kernel
theorem dX3_whose_19 : decode cX3_whose 19 = .ok (.athrow, 1) := by decide +kernel
theorem dX3_whose_20 : decode cX3_whose 20 = .ok (.aload_n 0, 1) := by decide +kernel
theorem dX3_whose_21 : decode cX3_whose 21 = .ok (.getfield 10, 3) := by decide +kernel
theorem dX3_whose_24 : decode cX3_whose 24 = .ok (.iload_n 1, 1) := by decide +kernel
theorem dX3_whose_25 : decode cX3_whose 25 = .ok (.invokevirtual 75, 3) := by decide +kernel
theorem dX3_whose_28 : decode cX3_whose 28 = .ok (.ireturn, 1) := by decide +kernel
set_option maxRecDepth 20000 in
theorem ggX3_count_X3_isWithin : GoodIn wsX3_count wsX3_isWithin := goodIn_r _ [7] (by decide +kernel) (by decide +kernel)
set_option maxRecDepth 20000 in
theorem gX3_count_X3_isWithin : GoodIn wsX3_count (va_wsS RX3 19 yX3_isWithin wsX3_isWithin) := goodIn_app (goodIn_of _ (by decide +kernel)) ggX3_count_X3_isWithin
set_option maxRecDepth 20000 in
theorem ggX3_count_X2_fact : GoodIn wsX3_count wsX2_fact := goodIn_r _ [12, 13, 14, 15, 16, 17, 18, 19, 20, 21, 11, 22, 23, 24, 25, 26, 27, 28, 29, 30, 31, 32, 33, 34, 35, 36, 37, 38, 39, 40, 41, 42, 43, 46, 47, 48, 49, 50, 51, 52, 53, 54, 55, 56, 57, 58, 59, 60, 61, 62, 63, 64, 65] (by decide +kernel) (by decide +kernel)
set_option maxRecDepth 20000 in
theorem gX3_count_X2_fact : GoodIn wsX3_count (wsV RX3 122 RX2 yX2_fact wsX2_fact) := goodIn_app (goodIn_of _ (by decide +kernel)) ggX3_count_X2_fact
theorem dX3_count_0 : decode cX3_count 0 = .ok (.iload_n 1, 1) := by decide +kernel
theorem dX3_count_1 : decode cX3_count 1 = .ok (.iconst 0, 1) := by decide +kernel
theorem dX3_count_2 : decode cX3_count 2 = .ok (.bipush 9, 2) := by decide +kernel
theorem dX3_count_4 : decode cX3_count 4 = .ok (.invokestatic 19, 3) := by decide +kernel
theorem dX3_count_7 : decode cX3_count 7 = .ok (.ifCond .ne 13, 3) := by decide +kernel
theorem dX3_count_10 : decode cX3_count 10 = .ok (.new 34, 3) := by decide +kernel
theorem dX3_count_13 : decode cX3_count 13 = .ok (.dup, 1) := by decide +kernel
theorem dX3_count_14 : decode cX3_count 14 = .ok (.ldc 120, 2) := by decide +kernel
theorem dX3_count_16 : decode cX3_count 16 = .ok (.invokespecial 38, 3) := by decide +kernel
theorem dX3_count_19 : decode cX3_count 19 = .ok (.athrow, 1) := by decide +kernel
theorem dX3_count_20 : decode cX3_count 20 = .ok (.aload_n 0, 1) := by decide +kernel
theorem dX3_count_21 : decode cX3_count 21 = .ok (.getfield 10, 3) := by decide +kernel
theorem dX3_count_24 : decode cX3_count 24 = .ok (.iload_n 1, 1) := by decide +kernel
theorem dX3_count_25 : decode cX3_count 25 = .ok (.invokevirtual 122, 3) := by decide +kernel
theorem dX3_count_28 : decode cX3_count 28 = .ok (.ireturn, 1) := by decide +kernel
set_option maxRecDepth 20000 in
theorem ggX3_pass_X3_isWithin : GoodIn wsX3_pass wsX3_isWithin := goodIn_r _ [7] (by decide +kernel) (by decide +kernel)
set_option maxRecDepth 20000 in
theorem gX3_pass_X3_isWithin : GoodIn wsX3_pass (va_wsS RX3 19 yX3_isWithin wsX3_isWithin) := goodIn_app (goodIn_of _ (by decide +kernel)) ggX3_pass_X3_isWithin
set_option maxRecDepth 20000 in
theorem ggX3_pass_X2_goThrough : GoodIn wsX3_pass wsX2_goThrough := goodIn_r _ [12, 13, 14, 15, 11, 16, 17, 18, 19, 20, 21, 22, 23, 24, 25, 26, 27, 28, 29, 30, 31, 32, 33, 34, 35, 36, 37, 38, 39, 40, 41, 42, 43, 44, 45, 46, 47, 48, 49, 50, 51, 52, 53, 54, 55, 56, 57, 58, 59, 60, 61, 62, 63, 64, 65, 66, 67, 68, 69, 70, 71, 72, 73, 74, 75, 76, 77, 78, 79, 80, 81, 82, 83, 84, 85, 86, 87, 88, 89, 90, 91, 92, 93, 94, 95, 96, 97, 98, 99, 100, 101, 102, 103, 104, 105, 106, 107, 108, 109, 110, 113, 114, 115, 116, 117, 118, 119, 120, 121, 122, 123, 124, 125, 126, 127, 128, 129, 130, 131, 132] (by decide +kernel) (by decide +kernel)
set_option maxRecDepth 20000 in
theorem gX3_pass_X2_goThrough : GoodIn wsX3_pass (wsV RX3 125 RX2 yX2_goThrough wsX2_goThrough) := goodIn_app (goodIn_of _ (by decide +kernel)) ggX3_pass_X2_goThrough
theorem dX3_pass_0 : decode cX3_pass 0 = .ok (.iload_n 1, 1) := by decide +kernel
theorem dX3_pass_1 : decode cX3_pass 1 = .ok (.iconst 1, 1) := by decide +kernel
theorem dX3_pass_2 : decode cX3_pass 2 = .ok (.sipush 240, 3) := by decide +kernel
theorem dX3_pass_5 : decode cX3_pass 5 = .ok (.invokestatic 19, 3) := by decide +kernel
theorem dX3_pass_8 : decode cX3_pass 8 = .ok (.ifCond .ne 13, 3) := by decide +kernel
theorem dX3_pass_11 : decode cX3_pass 11 = .ok (.new 23, 3) := by decide +kernel
theorem dX3_pass_14 : decode cX3_pass 14 = .ok (.dup, 1) := by decide +kernel
theorem dX3_pass_15 : decode cX3_pass 15 = .ok (.ldc 123, 2) := by decide +kernel
theorem dX3_pass_17 : decode cX3_pass 17 = .ok (.invokespecial 27, 3) := by decide +kernel
theorem dX3_pass_20 : decode cX3_pass 20 = .ok (.athrow, 1) := by decide +kernel
theorem dX3_pass_21 : decode cX3_pass 21 = .ok (.aload_n 0, 1) := by decide +kernel
theorem dX3_pass_22 : decode cX3_pass 22 = .ok (.getfield 10, 3) := by decide +kernel
theorem dX3_pass_25 : decode cX3_pass 25 = .ok (.iload_n 1, 1) := by decide +kernel
theorem dX3_pass_26 : decode cX3_pass 26 = .ok (.invokevirtual 125, 3) := by decide +kernel
theorem dX3_pass_29 : decode cX3_pass 29 = .ok (.ireturn, 1) := by decide +kernel
set_option maxRecDepth 20000 in
theorem ggX3_lasts_X2_becomeLike : GoodIn wsX3_lasts wsX2_becomeLike := goodIn_r _ [7, 8, 9, 10, 11, 12, 13, 14, 15, 16, 17, 6, 18, 19, 20, 21, 22, 23, 24, 25, 26, 27, 28, 29, 30, 31, 32, 33, 34, 35, 36, 37, 38, 39, 40, 41, 42, 43, 44, 45, 46, 47, 48, 49, 50, 51, 52, 53, 54, 55, 56, 57, 58, 59, 60, 61, 62, 63, 64, 65, 66, 67, 68, 69, 70, 71, 145, 146, 147, 148, 149, 150, 151, 152, 153, 154, 155, 156, 157, 158, 159, 160, 161, 162, 163, 164] (by decide +kernel) (by decide +kernel)
set_option maxRecDepth 20000 in
theorem gX3_lasts_X2_becomeLike : GoodIn wsX3_lasts (wsV RX3 128 RX2 yX2_becomeLike wsX2_becomeLike) := goodIn_app (goodIn_of _ (by decide +kernel)) ggX3_lasts_X2_becomeLike
set_option maxRecDepth 20000 in
theorem ggX3_lasts_X2_goThroughHour : GoodIn wsX3_lasts wsX2_goThroughHour := goodIn_r _ [75, 8, 76, 77, 78, 6, 79, 80, 81, 82, 83, 15, 16, 17, 18, 14, 84, 85, 86, 87, 13, 88, 89, 90, 91, 23, 92, 93, 94, 95, 26, 96, 37, 97, 98, 99, 100, 101, 102, 103, 104, 48, 105, 106, 107, 108, 27, 28, 29, 30, 109, 110, 111, 112, 113, 114, 115, 116, 117, 118, 119, 120, 43, 38, 121, 122, 123, 124, 125, 126, 127, 128, 51, 129, 71, 62, 68, 130, 69, 131, 132, 133, 134, 9, 10, 11, 12, 135, 136, 137, 138, 70, 139, 140, 141, 142, 145, 146, 147, 148, 149, 150, 151, 152, 153, 154, 155, 156, 157, 158, 159, 160, 161, 162, 163, 164] (by decide +kernel) (by decide +kernel)
set_option maxRecDepth 20000 in
theorem gX3_lasts_X2_goThroughHour : GoodIn wsX3_lasts (wsV RX3 132 RX2 yX2_goThroughHour wsX2_goThroughHour) := goodIn_app (goodIn_of _ (by decide +kernel)) ggX3_lasts_X2_goThroughHour
theorem dX3_lasts_0 : decode cX3_lasts 0 = .ok (.aload_n 0, 1) := by decide +kernel
theorem dX3_lasts_1 : decode cX3_lasts 1 = .ok (.getfield 16, 3) := by decide +kernel
theorem dX3_lasts_4 : decode cX3_lasts 4 = .ok (.aload_n 0, 1) := by decide +kernel
theorem dX3_lasts_5 : decode cX3_lasts 5 = .ok (.getfield 10, 3) := by decide +kernel
theorem dX3_lasts_8 : decode cX3_lasts 8 = .ok (.invokevirtual 128, 3) := by decide +kernel
theorem dX3_lasts_11 : decode cX3_lasts 11 = .ok (.iconst 1, 1) := by decide +kernel
theorem dX3_lasts_12 : decode cX3_lasts 12 = .ok (.istore_n 1, 1) := by decide +kernel
theorem dX3_lasts_13 : decode cX3_lasts 13 = .ok (.iload_n 1, 1) := by decide +kernel
theorem dX3_lasts_14 : decode cX3_lasts 14 = .ok (.sipush 480, 3) := by decide +kernel
theorem dX3_lasts_17 : decode cX3_lasts 17 = .ok (.if_icmp .gt 21, 3) := by decide +kernel
theorem dX3_lasts_20 : decode cX3_lasts 20 = .ok (.aload_n 0, 1) := by decide +kernel
theorem dX3_lasts_21 : decode cX3_lasts 21 = .ok (.getfield 16, 3) := by decide +kernel
theorem dX3_lasts_24 : decode cX3_lasts 24 = .ok (.invokevirtual 132, 3) := by decide +kernel
theorem dX3_lasts_27 : decode cX3_lasts 27 = .ok (.ifCond .le 5, 3) := by decide +kernel
theorem dX3_lasts_30 : decode cX3_lasts 30 = .ok (.iload_n 1, 1) := by decide +kernel
theorem dX3_lasts_31 : decode cX3_lasts 31 = .ok (.ireturn, 1) := by decide +kernel
theorem dX3_lasts_32 : decode cX3_lasts 32 = .ok (.iinc 1 1, 3) := by decide +kernel
theorem dX3_lasts_35 : decode cX3_lasts 35 = .ok (.goto (-22), 3) := by decide +kernel
theorem dX3_lasts_38 : decode cX3_lasts 38 = .ok (.iconst (-1), 1) := by decide +kernel
theorem dX3_lasts_39 : decode cX3_lasts 39 = .ok (.ireturn, 1) := by decide +kernel
set_option maxRecDepth 20000 in
theorem ggX3_foresee_X3_isWithin : GoodIn wsX3_foresee wsX3_isWithin := goodIn_r _ [10] (by decide +kernel) (by decide +kernel)
set_option maxRecDepth 20000 in
theorem gX3_foresee_X3_isWithin : GoodIn wsX3_foresee (va_wsS RX3 19 yX3_isWithin wsX3_isWithin) := goodIn_app (goodIn_of _ (by decide +kernel)) ggX3_foresee_X3_isWithin
set_option maxRecDepth 20000 in
theorem ggX3_foresee_X2_becomeLike : GoodIn wsX3_foresee wsX2_becomeLike := goodIn_r _ [15, 16, 17, 18, 19, 20, 21, 22, 23, 24, 25, 14, 26, 27, 28, 29, 30, 31, 32, 33, 34, 35, 36, 37, 38, 39, 40, 41, 42, 43, 44, 45, 46, 47, 48, 49, 50, 51, 52, 53, 54, 55, 56, 57, 58, 59, 60, 61, 62, 63, 64, 65, 66, 67, 68, 69, 70, 71, 72, 73, 74, 75, 76, 77, 78, 79, 171, 172, 173, 174, 175, 176, 177, 178, 179, 180, 181, 182, 183, 184, 185, 186, 187, 188, 189, 190] (by decide +kernel) (by decide +kernel)
set_option maxRecDepth 20000 in
theorem gX3_foresee_X2_becomeLike : GoodIn wsX3_foresee (wsV RX3 128 RX2 yX2_becomeLike wsX2_becomeLike) := goodIn_app (goodIn_of _ (by decide +kernel)) ggX3_foresee_X2_becomeLike
set_option maxRecDepth 20000 in
theorem ggX3_foresee_X2_goThrough : GoodIn wsX3_foresee wsX2_goThrough := goodIn_r _ [83, 84, 85, 86, 14, 87, 16, 88, 89, 90, 91, 92, 93, 94, 95, 23, 24, 25, 26, 22, 96, 97, 98, 99, 21, 100, 101, 102, 103, 31, 104, 105, 106, 107, 34, 108, 45, 109, 110, 111, 112, 113, 114, 115, 116, 56, 117, 118, 119, 120, 35, 36, 37, 38, 121, 122, 123, 124, 125, 126, 127, 128, 129, 130, 131, 132, 51, 46, 133, 134, 135, 136, 137, 138, 139, 140, 59, 141, 79, 70, 76, 142, 77, 143, 144, 145, 146, 17, 18, 19, 20, 147, 148, 149, 150, 78, 151, 152, 153, 154, 171, 172, 173, 174, 175, 176, 177, 178, 179, 180, 181, 182, 183, 184, 185, 186, 187, 188, 189, 190] (by decide +kernel) (by decide +kernel)
set_option maxRecDepth 20000 in
theorem gX3_foresee_X2_goThrough : GoodIn wsX3_foresee (wsV RX3 125 RX2 yX2_goThrough wsX2_goThrough) := goodIn_app (goodIn_of _ (by decide +kernel)) ggX3_foresee_X2_goThrough
set_option maxRecDepth 20000 in
theorem ggX3_foresee_X2_flourOfAll : GoodIn wsX3_foresee wsX2_flourOfAll := goodIn_r _ [158, 31, 104, 171, 172, 173, 174, 175, 176, 177, 178, 179, 180, 181, 182] (by decide +kernel) (by decide +kernel)
set_option maxRecDepth 20000 in
theorem gX3_foresee_X2_flourOfAll : GoodIn wsX3_foresee (wsV RX3 135 RX2 yX2_flourOfAll wsX2_flourOfAll) := goodIn_app (goodIn_of _ (by decide +kernel)) ggX3_foresee_X2_flourOfAll
set_option maxRecDepth 20000 in
theorem ggX3_foresee_X2_loavesOfAll : GoodIn wsX3_foresee wsX2_loavesOfAll := goodIn_r _ [162, 56, 163, 171, 172, 173, 174, 175, 176, 177, 178, 179, 183, 184, 185, 186, 187, 188, 189, 190] (by decide +kernel) (by decide +kernel)
set_option maxRecDepth 20000 in
theorem gX3_foresee_X2_loavesOfAll : GoodIn wsX3_foresee (wsV RX3 138 RX2 yX2_loavesOfAll wsX2_loavesOfAll) := goodIn_app (goodIn_of _ (by decide +kernel)) ggX3_foresee_X2_loavesOfAll
set_option maxRecDepth 20000 in
theorem ggX3_foresee_X2_weevilsOfAll : GoodIn wsX3_foresee wsX2_weevilsOfAll := goodIn_r _ [167, 31, 168, 171, 172, 173, 174, 175, 176, 177, 178, 179, 180, 181, 182] (by decide +kernel) (by decide +kernel)
set_option maxRecDepth 20000 in
theorem gX3_foresee_X2_weevilsOfAll : GoodIn wsX3_foresee (wsV RX3 141 RX2 yX2_weevilsOfAll wsX2_weevilsOfAll) := goodIn_app (goodIn_of _ (by decide +kernel)) ggX3_foresee_X2_weevilsOfAll
theorem dX3_foresee_0 : decode cX3_foresee 0 = .ok (.iload_n 1, 1) := by decide +kernel
theorem dX3_foresee_1 : decode cX3_foresee 1 = .ok (.iconst 1, 1) := by decide +kernel
theorem dX3_foresee_2 : decode cX3_foresee 2 = .ok (.sipush 240, 3) := by decide +kernel
theorem dX3_foresee_5 : decode cX3_foresee 5 = .ok (.invokestatic 19, 3) := by decide +kernel
theorem dX3_foresee_8 : decode cX3_foresee 8 = .ok (.ifCond .ne 13, 3) := by decide +kernel
theorem dX3_foresee_11 : decode cX3_foresee 11 = .ok (.new 23, 3) := by decide +kernel
theorem dX3_foresee_14 : decode cX3_foresee 14 = .ok (.dup, 1) := by decide +kernel
theorem dX3_foresee_15 : decode cX3_foresee 15 = .ok (.ldc 123, 2) := by decide +kernel
theorem dX3_foresee_17 : decode cX3_foresee 17 = .ok (.invokespecial 27, 3) := by decide +kernel
theorem dX3_foresee_20 : decode cX3_foresee 20 = .ok (.athrow, 1) := by decide +kernel
theorem dX3_foresee_21 : decode cX3_foresee 21 = .ok (.iload_n 2, 1) := by decide +kernel
theorem dX3_foresee_22 : decode cX3_foresee 22 = .ok (.iconst 0, 1) := by decide +kernel
theorem dX3_foresee_23 : decode cX3_foresee 23 = .ok (.iconst 3, 1) := by decide +kernel
theorem dX3_foresee_24 : decode cX3_foresee 24 = .ok (.invokestatic 19, 3) := by decide +kernel
theorem dX3_foresee_27 : decode cX3_foresee 27 = .ok (.ifCond .ne 13, 3) := by decide +kernel
theorem dX3_foresee_30 : decode cX3_foresee 30 = .ok (.new 34, 3) := by decide +kernel
theorem dX3_foresee_33 : decode cX3_foresee 33 = .ok (.dup, 1) := by decide +kernel
theorem dX3_foresee_34 : decode cX3_foresee 34 = .ok (.ldc 110, 2) := by decide +kernel
theorem dX3_foresee_36 : decode cX3_foresee 36 = .ok (.invokespecial 38, 3) := by decide +kernel
theorem dX3_foresee_39 : decode cX3_foresee 39 = .ok (.athrow, 1) := by decide +kernel
theorem dX3_foresee_40 : decode cX3_foresee 40 = .ok (.aload_n 0, 1) := by decide +kernel
theorem dX3_foresee_41 : decode cX3_foresee 41 = .ok (.getfield 16, 3) := by decide +kernel
theorem dX3_foresee_44 : decode cX3_foresee 44 = .ok (.aload_n 0, 1) := by decide +kernel
theorem dX3_foresee_45 : decode cX3_foresee 45 = .ok (.getfield 10, 3) := by decide +kernel
theorem dX3_foresee_48 : decode cX3_foresee 48 = .ok (.invokevirtual 128, 3) := by decide +kernel
theorem dX3_foresee_51 : decode cX3_foresee 51 = .ok (.aload_n 0, 1) := by decide +kernel
theorem dX3_foresee_52 : decode cX3_foresee 52 = .ok (.getfield 16, 3) := by decide +kernel
theorem dX3_foresee_55 : decode cX3_foresee 55 = .ok (.iload_n 1, 1) := by decide +kernel
theorem dX3_foresee_56 : decode cX3_foresee 56 = .ok (.invokevirtual 125, 3) := by decide +kernel
theorem dX3_foresee_59 : decode cX3_foresee 59 = .ok (.istore_n 3, 1) := by decide +kernel
theorem dX3_foresee_60 : decode cX3_foresee 60 = .ok (.iload_n 2, 1) := by decide +kernel
theorem dX3_foresee_61 : decode cX3_foresee 61 = .ok (.tableswitch 45 0 2 #[27, 29, 37], 27) := by decide +kernel
theorem dX3_foresee_88 : decode cX3_foresee 88 = .ok (.iload_n 3, 1) := by decide +kernel
theorem dX3_foresee_89 : decode cX3_foresee 89 = .ok (.ireturn, 1) := by decide +kernel
theorem dX3_foresee_90 : decode cX3_foresee 90 = .ok (.aload_n 0, 1) := by decide +kernel
theorem dX3_foresee_91 : decode cX3_foresee 91 = .ok (.getfield 16, 3) := by decide +kernel
theorem dX3_foresee_94 : decode cX3_foresee 94 = .ok (.invokevirtual 135, 3) := by decide +kernel
theorem dX3_foresee_97 : decode cX3_foresee 97 = .ok (.ireturn, 1) := by decide +kernel
theorem dX3_foresee_98 : decode cX3_foresee 98 = .ok (.aload_n 0, 1) := by decide +kernel
theorem dX3_foresee_99 : decode cX3_foresee 99 = .ok (.getfield 16, 3) := by decide +kernel
theorem dX3_foresee_102 : decode cX3_foresee 102 = .ok (.invokevirtual 138, 3) := by decide +kernel
theorem dX3_foresee_105 : decode cX3_foresee 105 = .ok (.ireturn, 1) := by decide +kernel
theorem dX3_foresee_106 : decode cX3_foresee 106 = .ok (.aload_n 0, 1) := by decide +kernel
theorem dX3_foresee_107 : decode cX3_foresee 107 = .ok (.getfield 16, 3) := by decide +kernel
theorem dX3_foresee_110 : decode cX3_foresee 110 = .ok (.invokevirtual 141, 3) := by decide +kernel
theorem dX3_foresee_113 : decode cX3_foresee 113 = .ok (.ireturn, 1) := by decide +kernel
theorem dX3_share_0 : decode cX3_share 0 = .ok (.aload_n 0, 1) := by decide +kernel
theorem dX3_share_1 : decode cX3_share 1 = .ok (.getfield 10, 3) := by decide +kernel
theorem dX3_share_4 : decode cX3_share 4 = .ok (.getfield 150, 3) := by decide +kernel
theorem dX3_share_7 : decode cX3_share 7 = .ok (.ifCond .ne 5, 3) := by decide +kernel
theorem dX3_share_10 : decode cX3_share 10 = .ok (.dconst 0, 1) := by decide +kernel
theorem dX3_share_11 : decode cX3_share 11 = .ok (.dreturn, 1) := by decide +kernel
theorem dX3_share_12 : decode cX3_share 12 = .ok (.aload_n 0, 1) := by decide +kernel
theorem dX3_share_13 : decode cX3_share 13 = .ok (.getfield 10, 3) := by decide +kernel
theorem dX3_share_16 : decode cX3_share 16 = .ok (.getfield 153, 3) := by decide +kernel
theorem dX3_share_19 : decode cX3_share 19 = .ok (.i2d, 1) := by decide +kernel
theorem dX3_share_20 : decode cX3_share 20 = .ok (.aload_n 0, 1) := by decide +kernel
theorem dX3_share_21 : decode cX3_share 21 = .ok (.getfield 10, 3) := by decide +kernel
theorem dX3_share_24 : decode cX3_share 24 = .ok (.getfield 150, 3) := by decide +kernel
theorem dX3_share_27 : decode cX3_share 27 = .ok (.i2d, 1) := by decide +kernel
theorem dX3_share_28 : decode cX3_share 28 = .ok (.ddiv, 1) := by decide +kernel
theorem dX3_share_29 : decode cX3_share 29 = .ok (.dreturn, 1) := by decide +kernel
theorem dX3_isWithin_0 : decode cX3_isWithin 0 = .ok (.iload_n 0, 1) := by decide +kernel
theorem dX3_isWithin_1 : decode cX3_isWithin 1 = .ok (.iload_n 1, 1) := by decide +kernel
theorem dX3_isWithin_2 : decode cX3_isWithin 2 = .ok (.if_icmp .lt 12, 3) := by decide +kernel
theorem dX3_isWithin_5 : decode cX3_isWithin 5 = .ok (.iload_n 0, 1) := by decide +kernel
theorem dX3_isWithin_6 : decode cX3_isWithin 6 = .ok (.iload_n 2, 1) := by decide +kernel
theorem dX3_isWithin_7 : decode cX3_isWithin 7 = .ok (.if_icmp .gt 7, 3) := by decide +kernel
theorem dX3_isWithin_10 : decode cX3_isWithin 10 = .ok (.iconst 1, 1) := by decide +kernel
theorem dX3_isWithin_11 : decode cX3_isWithin 11 = .ok (.goto 4, 3) := by decide +kernel
theorem dX3_isWithin_14 : decode cX3_isWithin 14 = .ok (.iconst 0, 1) := by decide +kernel
theorem dX3_isWithin_15 : decode cX3_isWithin 15 = .ok (.ireturn, 1) := by decide +kernel
end
section
/-! ===== LoafMarks' world; methods that throw ===== -/
abbrev E_A : String := "java/lang/IllegalArgumentException"
abbrev E_S : String := "java/lang/IllegalStateException"
abbrev E_I : String := "java/lang/IndexOutOfBoundsException"
abbrev xSup : List String := ["java/lang/RuntimeException", "java/lang/Exception"]
def xBw : List Cond := [.declares ⟨"java/lang/RuntimeException", "<init>", "(Ljava/lang/String;)V"⟩, .declares ⟨"java/lang/Exception", "<init>", "(Ljava/lang/String;)V"⟩, .declares ⟨"java/lang/Throwable", "<init>", "(Ljava/lang/String;)V"⟩, .castable E_A E_A, .castable E_S E_S, .castable E_I E_I]
/-- the texts of the class's exceptions, by their places in its pool -/
def xTx : List (Nat × String) := [(25, "people is not 0 to 500"), (36, "hour is not 0 to 23"), (39, "flour is not 0 to 99"), (45, "flour is not 0 to 900"), (47, "weevils is not 0 to 50"), (54, "there are 4 stores"), (61, "there is no such store"), (69, "mark is not 0 to 25"), (71, "weight is not 5 to 12"), (73, "ration is not 0 to 90"), (79, "another baker has this mark"), (85, "there are 6 bakers"), (91, "there is no such baker"), (101, "there is no loaf on the shelf"), (110, "what is not 0 to 3"), (115, "what is not 0 to 7"), (120, "what is not 0 to 9"), (123, "hours is not 1 to 240"), (144, "hours is not 1 to 96")]
/-- what the throws want of every state -/
def XV (sa : Nat → Nat) (U : State) : Prop := (∀ w ∈ xBw, va_Nw w U) ∧ ∀ q ∈ xTx, vk_R RX3 q.1 q.2 (sa q.1) U
theorem XV.warmed {sa : Nat → Nat} {s U : State} (hW : s.WarmedH U.vm) (h : XV sa s) : XV sa U := by
  refine ⟨fun w hw => ?_, fun q hq => vk_R.warm hW (h.2 q hq)⟩
  have h1 := h.1 w hw
  simp only [xBw, List.mem_cons, List.not_mem_nil, or_false] at hw
  rcases hw with rfl | rfl | rfl | rfl | rfl | rfl
  · exact va_Nw.warmD hW h1
  · exact va_Nw.warmD hW h1
  · exact va_Nw.warmD hW h1
  · exact va_Nw.warmC hW h1
  · exact va_Nw.warmC hW h1
  · exact va_Nw.warmC hW h1
theorem XV.same {sa : Nat → Nat} {s U : State} (e : s.vm = U.vm) (h : XV sa s) : XV sa U := by
  refine ⟨fun w hw => ?_, fun q hq => vk_R.same e.symm (h.2 q hq)⟩
  have h1 := h.1 w hw
  simp only [xBw, List.mem_cons, List.not_mem_nil, or_false] at hw
  rcases hw with rfl | rfl | rfl | rfl | rfl | rfl <;> exact va_Nw.same rfl e h1
/-- the two static fields that a new exception reads lie outside A -/
def xZ (A : Nat → Prop) (U : State) (H : Heap) : Prop := vx_Zq Bundle.tN "UNASSIGNED_STACK" Bundle.steD A U H ∧ vx_Zq Bundle.tN "SUPPRESSED_SENTINEL" Bundle.listD A U H
theorem xZ.moved {A : Nat → Prop} {u U : State} {H : Heap} (hvm : u.vm.Alike U.vm) (h : xZ A u H) : xZ A U H := ⟨vx_Zq.moved hvm h.1, vx_Zq.moved hvm h.2⟩
theorem xZ.narrow {A B : Nat → Prop} {U : State} {H : Heap} (h : xZ A U H) (hAB : ∀ q, B q → A q) : xZ B U H := ⟨vx_Zq.narrow h.1 hAB, vx_Zq.narrow h.2 hAB⟩
theorem xZ.kept {A : Nat → Prop} {U : State} {H H1 : Heap} (h : xZ A U H) (hq : ∀ a : Nat, a < H.size → ¬ A a → H1[a]? = H[a]?) : xZ A U H1 := ⟨vx_Zq.kept h.1 hq, vx_Zq.kept h.2 hq⟩
def xPreT (D : va_G) (cy : Nat → ClassId) (sa : Nat → Nat) (w0 : va_W) (sz : Nat) : State → Prop := fun U => xPre D cy w0 sz U ∧ XV sa U ∧ xZ (va_A w0 sz) U U.heap
/-- a call that always throws an E, its world as it was -/
def xTX (D : va_G) (A : Nat → Prop) (w0 : va_W) (E : String) : String → State → State → Prop := fun E' st t => E' = E ∧ va_P D vwCl w0 t.heap ∧ va_F A st t
abbrev xNo : Array Value → State → Outcome → State → Prop := fun _ _ _ _ => False
def xT (l : Launch) (D : va_G) (cy : Nat → ClassId) (sa : Nat → Nat) (y : MethodName) (wd : List Cond) (rm : Room) (av : List Value) (w0 : va_W) (E : String) : Prop :=
  ∀ sz : Nat, vx_Met l y wd rm (va_Pc av (xPreT D cy sa w0 sz)) xNo (xTX D (va_A w0 sz) w0 E) rm.cells rm.slots (va_A w0 sz)
theorem xT.of {l : Launch} {D : va_G} {cy : Nat → ClassId} {sa : Nat → Nat} {y : MethodName} {wd wd' : List Cond} {rm : Room} {av : List Value} {w0 : va_W} {E : String} (cc : ByteArray) (maxL : Nat) (ret : Option FieldType) (own : String)
    (hy : plainName y.cls = true) (ho : y.cls = own) (hw : wd = .code y cc maxL ret :: wd') (hlen : (lg_sl av).length ≤ maxL)
    (body : ∀ (p : Program) (e : Env) (s : State) (m : MethodId) (below : List Frame) (meth : Method) (c : Code) (A : Nat → Prop) (ls : Array Slot), p.tables.exec = Jvm.exec → c.code = cc → meth.sig.returnType = ret → (∀ w ∈ wd, w.before av.toArray s = true) → s.vm.findClass own = some m.cls → meth.locks = false → c.maxLocals = maxL → meth.name = y.name → XK D cy s →
      (∀ q : Nat, s.heap.size ≤ q → A q) → va_P D vwCl w0 s.heap → va_D A w0 → va_S A s.heap s.heap [] → XV sa s → xZ A s s.heap → (∀ x ∈ c.exceptionTable.toList, False) → lv_has ls maxL (lv_args 0 av) →
      W p l e rm s m av.toArray below meth c s.heap [] 0 0 (vx_MQ below xNo (xTX D A w0 E) av.toArray s rm.cells rm.slots A) (F0 m 0 ls [])) : xT l D cy sa y wd rm av w0 E := by
  intro sz
  refine vx_ofW (cc := cc) (maxL := maxL) (ret := ret) hy hw ?_
  intro p e s m args below meth c s₁ B hml htb hv
  obtain ⟨rfl, ⟨hsz, hP, hK, hD0⟩, hV, hZ⟩ := hv
  subst hsz
  have hts := atoms_spec (ws := wd) B.pre
  have hl := lv_entry av hlen
  rw [lg_entry_eq]
  exact body p e s m below meth c (va_A w0 s.heap.size) _ B.exec B.bytes B.returns hts (by rw [← ho]; exact findClass_of_methodNamed B.named) B.notSynchronized hml (name_of_methodNamed B.named B.method).1 hK (fun q h => Or.inr h) hP hD0.self va_S.rf hV hZ htb hl
/-- what may not be told by a method's own words: by the state -/
theorem xcovA : ∀ w ∈ (vx_atS RX3 27 E_A xSup).filter (fun w => !goodWord w), w ∈ xBw := by decide +kernel
theorem xcovI : ∀ w ∈ (vx_atS RX3 38 E_I xSup).filter (fun w => !goodWord w), w ∈ xBw := by decide +kernel
theorem xcovS : ∀ w ∈ (vx_atS RX3 56 E_S xSup).filter (fun w => !goodWord w), w ∈ xBw := by decide +kernel
theorem xotA : ∀ w ∈ Cond.classLink RX3 23 E_A :: Cond.initialized E_A :: vx_atS RX3 27 E_A xSup, vx_ot w = true := by decide +kernel
theorem xotI : ∀ w ∈ Cond.classLink RX3 34 E_I :: Cond.initialized E_I :: vx_atS RX3 38 E_I xSup, vx_ot w = true := by decide +kernel
theorem xotS : ∀ w ∈ Cond.classLink RX3 52 E_S :: Cond.initialized E_S :: vx_atS RX3 56 E_S xSup, vx_ot w = true := by decide +kernel
theorem xBw_at {sa : Nat → Nat} {args : Array Value} {s : State} (h : XV sa s) : ∀ w ∈ xBw, w.before args s = true := by
  intro w hw
  have h1 := h.1 w hw
  simp only [xBw, List.mem_cons, List.not_mem_nil, or_false] at hw
  rcases hw with rfl | rfl | rfl | rfl | rfl | rfl <;> exact va_Nw.use rfl h1
section XTHROW
variable {p : Program} {l : Launch} {e : Env} {R : Room} {s : State} {m : MethodId} {args : Array Value} {below : List Frame} {meth : Method} {c : Code} {H : Heap} {locs : List Loc} {cells slots mc ms : Nat} {cc : ByteArray} {pc : Nat} {ls : Array Slot} {D : va_G} {A : Nat → Prop} {w0 : va_W} {sa : Nat → Nat} {cls text : String} {ik is ic : Nat}
/-- new E(text); throw -/
theorem xthrow (hx : p.tables.exec = Jvm.exec) (hb : c.code = cc) (hst : l.stackTraces = false) (hown : s.vm.findClass RX3 = some m.cls) (hcls : Bundle.fit cls = true) (hk : (Cond.classLink RX3 ik cls).before args s = true) (hini : (Cond.initialized cls).before args s = true)
    (htx : (is, text) ∈ xTx) (hV : XV sa s) (hZ : xZ A s s.heap) (hat : ∀ w ∈ (vx_atS RX3 ic cls xSup).filter goodWord, w.before args s = true) (hcov : ∀ w ∈ (vx_atS RX3 ic cls xSup).filter (fun w => !goodWord w), w ∈ xBw) (hot : ∀ w ∈ Cond.classLink RX3 ik cls :: Cond.initialized cls :: vx_atS RX3 ic cls xSup, vx_ot w = true)
    (hS : va_S A s.heap H locs) (hP : va_P D vwCl w0 H) (hsize : ls.size = c.maxLocals)
    (d0 : decode cc pc = .ok (.new ik, 3)) (d3 : decode cc (pc + 3) = .ok (.dup, 1)) (d4 : decode cc (pc + 4) = .ok (.ldc is, 2)) (d6 : decode cc (pc + 6) = .ok (.invokespecial ic, 3)) (d9 : decode cc (pc + 9) = .ok (.athrow, 1))
    (htb : ∀ x ∈ c.exceptionTable.toList, False) (hlocks : meth.locks = false) (hRf : 6 ≤ R.frames) (hRl : 82 ≤ R.locals) (hRc : cells + 1 ≤ R.cells) (hRs : slots + 6 ≤ R.slots) (hc : cells + 1 ≤ mc) (hs : slots + 6 ≤ ms) :
    W p l e R s m args below meth c H locs cells slots (vx_MQ below xNo (xTX D A w0 cls) args s mc ms A) (F0 m pc ls []) := by
  refine vx_throwS (names := xSup) (sa := sa is) (A := A) hx hb hst hown hcls (by decide +kernel) hk hini (hV.2 (is, text) htx) (vx_hat hat hcov (xBw_at hV)) hot hZ.1 hZ.2 hS hsize d0 d3 d4 d6 d9 (fun x h => (htb x h).elim) (by show 2 + 3 < _; omega) (by show 0 + (13 * (2 + 1) + 43) ≤ _; omega) hRc hRs hlocks (fun t hal hz hq => ⟨rfl, va_P.kept hP (fun k q hk => hq q.1 (hP k q hk).lt), ⟨Nat.le_trans hS.1 hz, fun q h1 h2 => by rw [hq q (Nat.lt_of_lt_of_le h1 hS.1)]; exact hS.2.1 q h1 h2⟩⟩) hS.2.2 hc hs
end XTHROW
/-- the world of a LoafMarks: itself, its town, and what its trial has -/
def xw (cy : Nat → ClassId) (h : Nat) (ad : Nat → Nat) (nS nB : Nat) (st bk : Nat → Iu) (gate nu : Iu) (bt : Nat) (wt : va_W) : va_W := (h, .inr (3, [.ref (ad 0), .ref bt])) :: (tw cy ad nS nB st bk gate nu ++ wt)
section XW
variable {S : Type} {cy : Nat → ClassId} {h : Nat} {ad : Nat → Nat} {nS nB : Nat} {st bk : Nat → Iu} {gate nu : Iu} {bt : Nat} {wt : va_W}
theorem xw_at {k : Nat} {q : Nat × va_E} (hk : (tw cy ad nS nB st bk gate nu)[k]? = some q) : (xw cy h ad nS nB st bk gate nu bt wt)[k + 1]? = some q := by
  unfold xw
  rw [List.getElem?_cons_succ]
  exact at_l hk
theorem xw_set_st {i : Nat} {x : Iu} (hi : i < nS) : (xw cy h ad nS nB st bk gate nu bt wt).set (4 + i + 1) (ad (4 + i), cSt x) = xw cy h ad nS nB (va_up st i x) bk gate nu bt wt := by
  unfold xw
  rw [List.set_cons_succ, set_l (tw_st hi), tw_set_st hi]
theorem xw_set_bk {j : Nat} {x : Iu} (hj : j < nB) : (xw cy h ad nS nB st bk gate nu bt wt).set (4 + nS + j + 1) (ad (8 + j), cBk x) = xw cy h ad nS nB st (va_up bk j x) gate nu bt wt := by
  unfold xw
  rw [List.set_cons_succ, set_l (tw_bk hj), tw_set_bk hj]
theorem xE_xst {i : Nat} (x : Iu) (hi : i < nS) : xE (xw cy h ad nS nB st bk gate nu bt wt) [(ad (4 + i), cSt (st i))] (fun _ : Unit => [(ad (4 + i), cSt x)]) (fun _ => xw cy h ad nS nB (va_up st i x) bk gate nu bt wt) := by
  rw [← xw_set_st hi]
  exact xE_one (4 + i + 1) (xw_at (tw_st hi))
theorem xE_xbk {j : Nat} (x : Iu) (hj : j < nB) : xE (xw cy h ad nS nB st bk gate nu bt wt) [(ad (8 + j), cBk (bk j))] (fun _ : Unit => [(ad (8 + j), cBk x)]) (fun _ => xw cy h ad nS nB st (va_up bk j x) gate nu bt wt) := by
  rw [← xw_set_bk hj]
  exact xE_one (4 + nS + j + 1) (xw_at (tw_bk hj))
theorem xE_town {w1 : S → va_W} : xE (xw cy h ad nS nB st bk gate nu bt wt) (tw cy ad nS nB st bk gate nu) w1 (fun u => (h, .inr (3, [.ref (ad 0), .ref bt])) :: (w1 u ++ wt)) := by
  unfold xw
  exact xE_app (w0 := tw cy ad nS nB st bk gate nu) (w1 := w1) [(h, .inr (3, [.ref (ad 0), .ref bt]))] wt
theorem xE_trial {w1 : S → va_W} : xE (xw cy h ad nS nB st bk gate nu bt wt) wt w1 (fun u => xw cy h ad nS nB st bk gate nu bt (w1 u)) := by
  refine ⟨(h, .inr (3, [.ref (ad 0), .ref bt])) :: tw cy ad nS nB st bk gate nu, ?_, fun u => ?_⟩
  · exact List.perm_append_comm (l₁ := (h, .inr (3, [.ref (ad 0), .ref bt])) :: tw cy ad nS nB st bk gate nu) (l₂ := wt)
  · exact List.perm_append_comm (l₁ := w1 u) (l₂ := (h, .inr (3, [.ref (ad 0), .ref bt])) :: tw cy ad nS nB st bk gate nu)
theorem xE_both {w1 : S → va_W} : xE (xw cy h ad nS nB st bk gate nu bt wt) (wt ++ tw cy ad nS nB st bk gate nu) (fun u => w1 u ++ tw cy ad nS nB st bk gate nu) (fun u => xw cy h ad nS nB st bk gate nu bt (w1 u)) := by
  refine ⟨[(h, .inr (3, [.ref (ad 0), .ref bt]))], ?_, fun u => ?_⟩
  · exact (List.perm_append_comm (l₁ := [(h, .inr (3, [.ref (ad 0), .ref bt]))]) (l₂ := tw cy ad nS nB st bk gate nu ++ wt)).trans (List.perm_append_comm.append_right _)
  · exact ((List.perm_append_comm (l₁ := w1 u) (l₂ := tw cy ad nS nB st bk gate nu)).append_right _).trans (List.perm_append_comm (l₁ := tw cy ad nS nB st bk gate nu ++ w1 u) (l₂ := [(h, .inr (3, [.ref (ad 0), .ref bt]))]))
end XW
def wi (n a b : Int32) : Int32 := if a ≤ n ∧ n ≤ b then 1 else 0
theorem wi_ok {n a b : Int32} (h : a ≤ n ∧ n ≤ b) : ¬ wi n a b = 0 := by unfold wi; rw [if_pos h]; decide
theorem wi_no {n a b : Int32} (h : ¬ (a ≤ n ∧ n ≤ b)) : wi n a b = 0 := by unfold wi; rw [if_neg h]
def dgN (f : Nat → Int32) : Nat → Int64 → Int64
  | 0, d => d
  | n + 1, d => dgN f n d * 31 + (f n).toInt64
def dgS (st bk : Nat → Iu) (nB : Nat) : Nat → Int64 → Int64
  | 0, d => d
  | n + 1, d => dgN (stFact st bk nB n) 4 (dgS st bk nB n d)
def dgB (bk : Nat → Iu) : Nat → Int64 → Int64
  | 0, d => d
  | n + 1, d => dgN (bFact (bk n)) 8 (dgB bk n d)
def lastN (nS nB h : Nat) (gate : Iu) (u : TS) : Nat → Nat → Int32
  | 0, _ => -1
  | n + 1, i => if 0 < hUnfed nS nB ((h + i) % 24) gate (hrs nS nB h gate u i) then nI (i + 1) else lastN nS nB h gate u n (i + 1)
def advN (f : Nat → Int32) : Nat → Nat × Int32
  | 0 => (0, f 0)
  | k + 1 => if f (k + 1) < (advN f k).2 then (k + 1, f (k + 1)) else advN f k
/-- the bakers with another ration for one -/
def rat (bk : Nat → Iu) (j k : Nat) : Nat → Iu := va_up bk j (upd (bk j) 2 (nI (10 * k)))
end
section
/-! ===== LoafMarks: calls that change and tell (laid by gen22.py) ===== -/
set_option maxHeartbeats 4000000 in
set_option maxRecDepth 100000 in
/-- isWithin -/
theorem c_X3_isWithin (l : Launch) (D : va_G) (cy : Nat → ClassId) (n a b : Int32) : xM l D cy yX3_isWithin wsX3_isWithin ({ frames := 0, cells := 0, slots := 0, locals := 0 } : Room) [.int n, .int a, .int b] (([] : va_W)) (fun _ : Unit => some (.int (wi n a b))) (fun _ => True) (fun _ => ([] : va_W)) := by
  refine xM.of cX3_isWithin 3 (some .boolean) RX3 (by decide +kernel) rfl rfl (Nat.le_of_ble_eq_true rfl) ?_
  intro p e s m below meth c A ls hx hb hr hts hown hlocks hml hin hK hA hP hD hS hl
  have hl : lv_has ls 3 [(0, .int n), (1, .int a), (2, .int b)] := hl
  refine lv_iload_n hx hb dX3_isWithin_0 rfl (lv_at hl 0 rfl) ?_
  refine lv_iload_n hx hb dX3_isWithin_1 rfl (lv_at hl 1 rfl) ?_
  refine lv_icmp_lt (tgt := 14) hx hb dX3_isWithin_2 (by decide) (fun c2 => ?_) (fun c2 => ?_)
  · refine lv_iconst (v := 0) hx hb dX3_isWithin_14 (by decide) ?_
    exact xrz () hx hb hr hlocks hS (Nat.le_of_ble_eq_true rfl) (Nat.le_of_ble_eq_true rfl) dX3_isWithin_15 (by decide) hP hD (by show some (Value.int (wi n a b)) = _; unfold wi; rw [if_neg (fun z => absurd c2 (Int32.not_lt.mpr z.1))]) trivial
  · refine lv_iload_n hx hb dX3_isWithin_5 rfl (lv_at hl 0 rfl) ?_
    refine lv_iload_n hx hb dX3_isWithin_6 rfl (lv_at hl 2 rfl) ?_
    refine lv_icmp_gt (tgt := 14) hx hb dX3_isWithin_7 (by decide) (fun c7 => ?_) (fun c7 => ?_)
    · refine lv_iconst (v := 0) hx hb dX3_isWithin_14 (by decide) ?_
      exact xrz () hx hb hr hlocks hS (Nat.le_of_ble_eq_true rfl) (Nat.le_of_ble_eq_true rfl) dX3_isWithin_15 (by decide) hP hD (by show some (Value.int (wi n a b)) = _; unfold wi; rw [if_neg (fun z => absurd c7 (Int32.not_lt.mpr z.2))]) trivial
    · refine lv_iconst (v := 1) hx hb dX3_isWithin_10 (by decide) ?_
      refine lv_goto (tgt := 15) hx hb dX3_isWithin_11 (by decide) ?_
      exact xrz () hx hb hr hlocks hS (Nat.le_of_ble_eq_true rfl) (Nat.le_of_ble_eq_true rfl) dX3_isWithin_15 (by decide) hP hD (by show some (Value.int (wi n a b)) = _; unfold wi; rw [if_pos ⟨Int32.not_lt.mp c2, Int32.not_lt.mp c7⟩]) trivial


set_option maxHeartbeats 4000000 in
set_option maxRecDepth 100000 in
/-- setPeople -/
theorem c_X3_setPeople (l : Launch) (D : va_G) (cy : Nat → ClassId) (h : Nat) (ad : Nat → Nat) (nS nB : Nat) (st bk : Nat → Iu) (gate nu : Iu) (bt : Nat) (wt : va_W) (p0 : Int32) (h1 : (0 : Int32) ≤ p0 ∧ p0 ≤ 500) : xM l D cy yX3_setPeople wsX3_setPeople ({ frames := 6, cells := 1, slots := 6, locals := 120 } : Room) [.ref h, .int p0] (xw cy h ad nS nB st bk gate nu bt wt) (fun _ : Unit => some (.int (nu 1))) (fun _ => True) (fun _ => xw cy h ad nS nB st bk gate (upd nu 1 p0) bt wt) := by
  refine xM.of cX3_setPeople 3 (some .int) RX3 (by decide +kernel) rfl rfl (Nat.le_of_ble_eq_true rfl) ?_
  intro p e s m below meth c A ls hx hb hr hts hown hlocks hml hin hK hA hP hD hS hl
  have hl : lv_has ls 3 [(0, .ref h), (1, .int p0)] := hl
  have hinX2 : ∀ w ∈ wsX20, w ∈ wsX3_setPeople := fun _ h => List.mem_cons_of_mem _ (List.mem_append_left _ (List.mem_append_right _ h))
  have hinX3 : ∀ w ∈ wsX30, w ∈ wsX3_setPeople := fun _ h => List.mem_cons_of_mem _ (List.mem_append_left _ (List.mem_append_left _ (List.mem_append_right _ h)))
  refine lv_iload_n hx hb dX3_setPeople_0 rfl (lv_at hl 1 rfl) ?_
  refine lv_iconst (v := 0) hx hb dX3_setPeople_1 (by decide) ?_
  refine lv_sipush (v := 500) hx hb dX3_setPeople_2 (by decide) ?_
  refine xcS (As := [.int p0, .int 0, .int 500]) (rest := []) ⟨hx, hb, hml, hown, hts⟩ (c_X3_isWithin l D cy p0 0 500) (va_cwS 3 hts gX3_setPeople_X3_isWithin rfl rfl rfl (by decide +kernel) ⟨Nat.le_of_ble_eq_true rfl, Nat.le_of_ble_eq_true rfl⟩) hK hP hD hS hA (xE_nil) rfl hl.1 rfl (Nat.le_of_ble_eq_true rfl) dX3_setPeople_5 ⟨Nat.le_of_ble_eq_true rfl, Nat.le_of_ble_eq_true rfl⟩ (fun _ H locs _ hP hD hS => ?_)
  have hP : va_P D vwCl (xw cy h ad nS nB st bk gate nu bt wt) H := hP
  have hD : va_D A (xw cy h ad nS nB st bk gate nu bt wt) := hD
  refine W.eq (g2 := F0 m 8 ls [.int (wi p0 0 500)]) rfl ?_
  refine lv_if_ne (tgt := 21) hx hb dX3_setPeople_8 (by decide) (fun _ => ?_) (fun z => absurd z (wi_ok h1))
  refine lv_aload_n hx hb dX3_setPeople_21 rfl (lv_at hl 0 rfl) ?_
  refine va_get (D := D) (ci := 3) (v := .ref (ad 0)) (C := RX3) (T := TX3) (N := 2) hx hb hts hinX3 hown hK.1 hP 0 rfl rfl 0 (by decide) (hts (.fieldLink RX3 10 "LoafMarks" "town" "LLoafMarks$Town;") (List.mem_of_getElem? (i := 3) rfl)) (fun _ h9 => h9) rfl dX3_setPeople_22 ?_
  refine va_get (D := D) (ci := 2) (v := .int (nu 1)) (C := RX2) (T := TX2) (N := 9) hx hb hts hinX2 hown hK.1 hP 1 rfl rfl 4 (by decide) (hts (.fieldLink RX3 30 "LoafMarks$Town" "people" "I") (List.mem_of_getElem? (i := 4) rfl)) (fun _ h9 => h9) rfl dX3_setPeople_25 ?_
  refine lv_istore_n (lv' := [(2, .int (nu 1)), (0, .ref h), (1, .int p0)]) hx hb dX3_setPeople_28 rfl hl (by decide) rfl (fun ls hl => ?_)
  refine lv_aload_n hx hb dX3_setPeople_29 rfl (lv_at hl 1 rfl) ?_
  refine va_get (D := D) (ci := 3) (v := .ref (ad 0)) (C := RX3) (T := TX3) (N := 2) hx hb hts hinX3 hown hK.1 hP 0 rfl rfl 0 (by decide) (hts (.fieldLink RX3 10 "LoafMarks" "town" "LLoafMarks$Town;") (List.mem_of_getElem? (i := 3) rfl)) (fun _ h9 => h9) rfl dX3_setPeople_30 ?_
  refine lv_iload_n hx hb dX3_setPeople_33 rfl (lv_at hl 2 rfl) ?_
  refine va_put (D := D) (ci := 2) (v := .int p0) (ty := .int) (C := RX2) (T := TX2) (N := 9) hx hb hts hinX2 tyX2 tyX2_ok nmX2 hown hK.1 hP hD hS 1 rfl rfl 4 (by decide) (hts (.fieldLink RX3 30 "LoafMarks$Town" "people" "I") (List.mem_of_getElem? (i := 4) rfl)) (fun _ h9 => h9) rfl (by decide +kernel) rfl rfl (Nat.le_of_ble_eq_true rfl) dX3_setPeople_34 (fun H locs hP hD hS => ?_)
  have hP : va_P D vwCl (xw cy h ad nS nB st bk gate (upd nu 1 p0) bt wt) H := hP
  have hD : va_D A (xw cy h ad nS nB st bk gate (upd nu 1 p0) bt wt) := hD
  refine lv_iload_n hx hb dX3_setPeople_37 rfl (lv_at hl 0 rfl) ?_
  exact xri () hx hb hr hlocks hS (Nat.le_of_ble_eq_true rfl) (Nat.le_of_ble_eq_true rfl) dX3_setPeople_38 hP hD rfl trivial

set_option maxHeartbeats 4000000 in
set_option maxRecDepth 100000 in
theorem c_X3_setPeople_1 (l : Launch) (hst : l.stackTraces = false) (D : va_G) (cy : Nat → ClassId) (sa : Nat → Nat) (h : Nat) (ad : Nat → Nat) (nS nB : Nat) (st bk : Nat → Iu) (gate nu : Iu) (bt : Nat) (wt : va_W) (p0 : Int32) (h1 : ¬ ((0 : Int32) ≤ p0 ∧ p0 ≤ 500)) : xT l D cy sa yX3_setPeople wsX3_setPeople ({ frames := 6, cells := 1, slots := 6, locals := 120 } : Room) [.ref h, .int p0] (xw cy h ad nS nB st bk gate nu bt wt) E_A := by
  refine xT.of cX3_setPeople 3 (some .int) RX3 (by decide +kernel) rfl rfl (Nat.le_of_ble_eq_true rfl) ?_
  intro p e s m below meth c A ls hx hb hr hts hown hlocks hml hin hK hA hP hD hS hV hZ htb hl
  have hl : lv_has ls 3 [(0, .ref h), (1, .int p0)] := hl
  refine lv_iload_n hx hb dX3_setPeople_0 rfl (lv_at hl 1 rfl) ?_
  refine lv_iconst (v := 0) hx hb dX3_setPeople_1 (by decide) ?_
  refine lv_sipush (v := 500) hx hb dX3_setPeople_2 (by decide) ?_
  refine xcS (As := [.int p0, .int 0, .int 500]) (rest := []) ⟨hx, hb, hml, hown, hts⟩ (c_X3_isWithin l D cy p0 0 500) (va_cwS 3 hts gX3_setPeople_X3_isWithin rfl rfl rfl (by decide +kernel) ⟨Nat.le_of_ble_eq_true rfl, Nat.le_of_ble_eq_true rfl⟩) hK hP hD hS hA (xE_nil) rfl hl.1 rfl (Nat.le_of_ble_eq_true rfl) dX3_setPeople_5 ⟨Nat.le_of_ble_eq_true rfl, Nat.le_of_ble_eq_true rfl⟩ (fun _ H locs _ hP hD hS => ?_)
  have hP : va_P D vwCl (xw cy h ad nS nB st bk gate nu bt wt) H := hP
  have hD : va_D A (xw cy h ad nS nB st bk gate nu bt wt) := hD
  refine W.eq (g2 := F0 m 8 ls [.int (wi p0 0 500)]) rfl ?_
  refine lv_if_ne (tgt := 21) hx hb dX3_setPeople_8 (by decide) (fun z => absurd (wi_no h1) z) (fun _ => ?_)
  exact xthrow (cls := E_A) (text := "people is not 0 to 500") hx hb hst hown (by decide +kernel) (hts (.classLink RX3 23 "java/lang/IllegalArgumentException") (List.mem_of_getElem? (i := 1) rfl)) (hts (.initialized "java/lang/IllegalArgumentException") (List.mem_of_getElem? (i := 2) rfl)) (List.mem_of_getElem? (i := 0) rfl) hV hZ (fun w h => hts w (List.mem_cons_of_mem _ (List.mem_append_right _ h))) xcovA xotA hS hP (hl.1.trans hml.symm) dX3_setPeople_11 dX3_setPeople_14 dX3_setPeople_15 dX3_setPeople_17 dX3_setPeople_20 htb hlocks (Nat.le_of_ble_eq_true rfl) (Nat.le_of_ble_eq_true rfl) (Nat.le_of_ble_eq_true rfl) (Nat.le_of_ble_eq_true rfl) (Nat.le_of_ble_eq_true rfl) (Nat.le_of_ble_eq_true rfl)

set_option maxHeartbeats 4000000 in
set_option maxRecDepth 100000 in
/-- setGate -/
theorem c_X3_setGate (l : Launch) (D : va_G) (cy : Nat → ClassId) (h : Nat) (ad : Nat → Nat) (nS nB : Nat) (st bk : Nat → Iu) (gate nu : Iu) (bt : Nat) (wt : va_W) (k : Nat) (hk : k < 24) (p1 : Int32) (h2 : (0 : Int32) ≤ p1 ∧ p1 ≤ 99) : xM l D cy yX3_setGate wsX3_setGate ({ frames := 6, cells := 1, slots := 6, locals := 120 } : Room) [.ref h, .int (nI k), .int p1] (xw cy h ad nS nB st bk gate nu bt wt) (fun _ : Unit => some (.int (gate k))) (fun _ => True) (fun _ => xw cy h ad nS nB st bk (upd gate k p1) nu bt wt) := by
  refine xM.of cX3_setGate 3 (some .int) RX3 (by decide +kernel) rfl rfl (Nat.le_of_ble_eq_true rfl) ?_
  intro p e s m below meth c A ls hx hb hr hts hown hlocks hml hin hK hA hP hD hS hl
  have hl : lv_has ls 3 [(0, .ref h), (1, .int (nI k)), (2, .int p1)] := hl
  have hinX3 : ∀ w ∈ wsX30, w ∈ wsX3_setGate := fun _ h => List.mem_cons_of_mem _ (List.mem_append_left _ (List.mem_append_left _ (List.mem_append_left _ (List.mem_append_right _ h))))
  refine lv_iload_n hx hb dX3_setGate_0 rfl (lv_at hl 1 rfl) ?_
  refine lv_iconst (v := 0) hx hb dX3_setGate_1 (by decide) ?_
  refine lv_bipush (v := 23) hx hb dX3_setGate_2 (by decide) ?_
  refine xcS (As := [.int (nI k), .int 0, .int 23]) (rest := []) ⟨hx, hb, hml, hown, hts⟩ (c_X3_isWithin l D cy (nI k) 0 23) (va_cwS 3 hts gX3_setGate_X3_isWithin rfl rfl rfl (by decide +kernel) ⟨Nat.le_of_ble_eq_true rfl, Nat.le_of_ble_eq_true rfl⟩) hK hP hD hS hA (xE_nil) rfl hl.1 rfl (Nat.le_of_ble_eq_true rfl) dX3_setGate_4 ⟨Nat.le_of_ble_eq_true rfl, Nat.le_of_ble_eq_true rfl⟩ (fun _ H locs _ hP hD hS => ?_)
  have hP : va_P D vwCl (xw cy h ad nS nB st bk gate nu bt wt) H := hP
  have hD : va_D A (xw cy h ad nS nB st bk gate nu bt wt) := hD
  refine W.eq (g2 := F0 m 7 ls [.int (wi (nI k) 0 23)]) rfl ?_
  refine lv_if_ne (tgt := 20) hx hb dX3_setGate_7 (by decide) (fun _ => ?_) (fun z => absurd z (wi_ok ⟨nI_pos' (n := k) (by omega), nI_le (a := k) (b := 23) (by omega) (by decide)⟩))
  refine lv_iload_n hx hb dX3_setGate_20 rfl (lv_at hl 2 rfl) ?_
  refine lv_iconst (v := 0) hx hb dX3_setGate_21 (by decide) ?_
  refine lv_bipush (v := 99) hx hb dX3_setGate_22 (by decide) ?_
  refine xcS (As := [.int p1, .int 0, .int 99]) (rest := []) ⟨hx, hb, hml, hown, hts⟩ (c_X3_isWithin l D cy p1 0 99) (va_cwS 3 hts gX3_setGate_X3_isWithin rfl rfl rfl (by decide +kernel) ⟨Nat.le_of_ble_eq_true rfl, Nat.le_of_ble_eq_true rfl⟩) hK hP hD hS hA (xE_nil) rfl hl.1 rfl (Nat.le_of_ble_eq_true rfl) dX3_setGate_24 ⟨Nat.le_of_ble_eq_true rfl, Nat.le_of_ble_eq_true rfl⟩ (fun _ H locs _ hP hD hS => ?_)
  have hP : va_P D vwCl (xw cy h ad nS nB st bk gate nu bt wt) H := hP
  have hD : va_D A (xw cy h ad nS nB st bk gate nu bt wt) := hD
  refine W.eq (g2 := F0 m 27 ls [.int (wi p1 0 99)]) rfl ?_
  refine lv_if_ne (tgt := 40) hx hb dX3_setGate_27 (by decide) (fun _ => ?_) (fun z => absurd z (wi_ok h2))
  refine lv_aload_n hx hb dX3_setGate_40 rfl (lv_at hl 0 rfl) ?_
  refine va_get (D := D) (ci := 3) (v := .ref (ad 0)) (C := RX3) (T := TX3) (N := 2) hx hb hts hinX3 hown hK.1 hP 0 rfl rfl 0 (by decide) (hts (.fieldLink RX3 10 "LoafMarks" "town" "LLoafMarks$Town;") (List.mem_of_getElem? (i := 5) rfl)) (fun _ h9 => h9) rfl dX3_setGate_41 ?_
  refine lv_iload_n hx hb dX3_setGate_44 rfl (lv_at hl 1 rfl) ?_
  refine lv_iload_n hx hb dX3_setGate_45 rfl (lv_at hl 2 rfl) ?_
  refine xcV (As := [.int (nI k), .int p1]) (rest := []) ⟨hx, hb, hml, hown, hts⟩ (c_X2_changeGate l D cy ad nS nB st bk gate nu k (by omega) p1) (cwV 2 hts gX3_setGate_X2_changeGate rfl rfl rfl (by decide +kernel) ⟨Nat.le_of_ble_eq_true rfl, Nat.le_of_ble_eq_true rfl⟩) hK hP hD hS hA rfl rfl rfl (xE_town) rfl hl.1 rfl (Nat.le_of_ble_eq_true rfl) dX3_setGate_46 ⟨Nat.le_of_ble_eq_true rfl, Nat.le_of_ble_eq_true rfl⟩ (fun _ H locs _ hP hD hS => ?_)
  have hP : va_P D vwCl (xw cy h ad nS nB st bk (upd gate k p1) nu bt wt) H := hP
  have hD : va_D A (xw cy h ad nS nB st bk (upd gate k p1) nu bt wt) := hD
  refine W.eq (g2 := F0 m 49 ls [.int (gate k)]) rfl ?_
  exact xri () hx hb hr hlocks hS (Nat.le_of_ble_eq_true rfl) (Nat.le_of_ble_eq_true rfl) dX3_setGate_49 hP hD rfl trivial

set_option maxHeartbeats 4000000 in
set_option maxRecDepth 100000 in
theorem c_X3_setGate_1 (l : Launch) (hst : l.stackTraces = false) (D : va_G) (cy : Nat → ClassId) (sa : Nat → Nat) (h : Nat) (ad : Nat → Nat) (nS nB : Nat) (st bk : Nat → Iu) (gate nu : Iu) (bt : Nat) (wt : va_W) (p0 p1 : Int32) (h1 : ¬ ((0 : Int32) ≤ p0 ∧ p0 ≤ 23)) : xT l D cy sa yX3_setGate wsX3_setGate ({ frames := 6, cells := 1, slots := 6, locals := 120 } : Room) [.ref h, .int p0, .int p1] (xw cy h ad nS nB st bk gate nu bt wt) E_I := by
  refine xT.of cX3_setGate 3 (some .int) RX3 (by decide +kernel) rfl rfl (Nat.le_of_ble_eq_true rfl) ?_
  intro p e s m below meth c A ls hx hb hr hts hown hlocks hml hin hK hA hP hD hS hV hZ htb hl
  have hl : lv_has ls 3 [(0, .ref h), (1, .int p0), (2, .int p1)] := hl
  refine lv_iload_n hx hb dX3_setGate_0 rfl (lv_at hl 1 rfl) ?_
  refine lv_iconst (v := 0) hx hb dX3_setGate_1 (by decide) ?_
  refine lv_bipush (v := 23) hx hb dX3_setGate_2 (by decide) ?_
  refine xcS (As := [.int p0, .int 0, .int 23]) (rest := []) ⟨hx, hb, hml, hown, hts⟩ (c_X3_isWithin l D cy p0 0 23) (va_cwS 3 hts gX3_setGate_X3_isWithin rfl rfl rfl (by decide +kernel) ⟨Nat.le_of_ble_eq_true rfl, Nat.le_of_ble_eq_true rfl⟩) hK hP hD hS hA (xE_nil) rfl hl.1 rfl (Nat.le_of_ble_eq_true rfl) dX3_setGate_4 ⟨Nat.le_of_ble_eq_true rfl, Nat.le_of_ble_eq_true rfl⟩ (fun _ H locs _ hP hD hS => ?_)
  have hP : va_P D vwCl (xw cy h ad nS nB st bk gate nu bt wt) H := hP
  have hD : va_D A (xw cy h ad nS nB st bk gate nu bt wt) := hD
  refine W.eq (g2 := F0 m 7 ls [.int (wi p0 0 23)]) rfl ?_
  refine lv_if_ne (tgt := 20) hx hb dX3_setGate_7 (by decide) (fun z => absurd (wi_no h1) z) (fun _ => ?_)
  exact xthrow (cls := E_I) (text := "hour is not 0 to 23") hx hb hst hown (by decide +kernel) (hts (.classLink RX3 34 "java/lang/IndexOutOfBoundsException") (List.mem_of_getElem? (i := 1) rfl)) (hts (.initialized "java/lang/IndexOutOfBoundsException") (List.mem_of_getElem? (i := 2) rfl)) (List.mem_of_getElem? (i := 1) rfl) hV hZ (fun w h => hts w (List.mem_cons_of_mem _ (List.mem_append_left _ (List.mem_append_right _ h)))) xcovI xotI hS hP (hl.1.trans hml.symm) dX3_setGate_10 dX3_setGate_13 dX3_setGate_14 dX3_setGate_16 dX3_setGate_19 htb hlocks (Nat.le_of_ble_eq_true rfl) (Nat.le_of_ble_eq_true rfl) (Nat.le_of_ble_eq_true rfl) (Nat.le_of_ble_eq_true rfl) (Nat.le_of_ble_eq_true rfl) (Nat.le_of_ble_eq_true rfl)

set_option maxHeartbeats 4000000 in
set_option maxRecDepth 100000 in
theorem c_X3_setGate_2 (l : Launch) (hst : l.stackTraces = false) (D : va_G) (cy : Nat → ClassId) (sa : Nat → Nat) (h : Nat) (ad : Nat → Nat) (nS nB : Nat) (st bk : Nat → Iu) (gate nu : Iu) (bt : Nat) (wt : va_W) (p0 p1 : Int32) (h1 : (0 : Int32) ≤ p0 ∧ p0 ≤ 23) (h2 : ¬ ((0 : Int32) ≤ p1 ∧ p1 ≤ 99)) : xT l D cy sa yX3_setGate wsX3_setGate ({ frames := 6, cells := 1, slots := 6, locals := 120 } : Room) [.ref h, .int p0, .int p1] (xw cy h ad nS nB st bk gate nu bt wt) E_A := by
  refine xT.of cX3_setGate 3 (some .int) RX3 (by decide +kernel) rfl rfl (Nat.le_of_ble_eq_true rfl) ?_
  intro p e s m below meth c A ls hx hb hr hts hown hlocks hml hin hK hA hP hD hS hV hZ htb hl
  have hl : lv_has ls 3 [(0, .ref h), (1, .int p0), (2, .int p1)] := hl
  refine lv_iload_n hx hb dX3_setGate_0 rfl (lv_at hl 1 rfl) ?_
  refine lv_iconst (v := 0) hx hb dX3_setGate_1 (by decide) ?_
  refine lv_bipush (v := 23) hx hb dX3_setGate_2 (by decide) ?_
  refine xcS (As := [.int p0, .int 0, .int 23]) (rest := []) ⟨hx, hb, hml, hown, hts⟩ (c_X3_isWithin l D cy p0 0 23) (va_cwS 3 hts gX3_setGate_X3_isWithin rfl rfl rfl (by decide +kernel) ⟨Nat.le_of_ble_eq_true rfl, Nat.le_of_ble_eq_true rfl⟩) hK hP hD hS hA (xE_nil) rfl hl.1 rfl (Nat.le_of_ble_eq_true rfl) dX3_setGate_4 ⟨Nat.le_of_ble_eq_true rfl, Nat.le_of_ble_eq_true rfl⟩ (fun _ H locs _ hP hD hS => ?_)
  have hP : va_P D vwCl (xw cy h ad nS nB st bk gate nu bt wt) H := hP
  have hD : va_D A (xw cy h ad nS nB st bk gate nu bt wt) := hD
  refine W.eq (g2 := F0 m 7 ls [.int (wi p0 0 23)]) rfl ?_
  refine lv_if_ne (tgt := 20) hx hb dX3_setGate_7 (by decide) (fun _ => ?_) (fun z => absurd z (wi_ok h1))
  refine lv_iload_n hx hb dX3_setGate_20 rfl (lv_at hl 2 rfl) ?_
  refine lv_iconst (v := 0) hx hb dX3_setGate_21 (by decide) ?_
  refine lv_bipush (v := 99) hx hb dX3_setGate_22 (by decide) ?_
  refine xcS (As := [.int p1, .int 0, .int 99]) (rest := []) ⟨hx, hb, hml, hown, hts⟩ (c_X3_isWithin l D cy p1 0 99) (va_cwS 3 hts gX3_setGate_X3_isWithin rfl rfl rfl (by decide +kernel) ⟨Nat.le_of_ble_eq_true rfl, Nat.le_of_ble_eq_true rfl⟩) hK hP hD hS hA (xE_nil) rfl hl.1 rfl (Nat.le_of_ble_eq_true rfl) dX3_setGate_24 ⟨Nat.le_of_ble_eq_true rfl, Nat.le_of_ble_eq_true rfl⟩ (fun _ H locs _ hP hD hS => ?_)
  have hP : va_P D vwCl (xw cy h ad nS nB st bk gate nu bt wt) H := hP
  have hD : va_D A (xw cy h ad nS nB st bk gate nu bt wt) := hD
  refine W.eq (g2 := F0 m 27 ls [.int (wi p1 0 99)]) rfl ?_
  refine lv_if_ne (tgt := 40) hx hb dX3_setGate_27 (by decide) (fun z => absurd (wi_no h2) z) (fun _ => ?_)
  exact xthrow (cls := E_A) (text := "flour is not 0 to 99") hx hb hst hown (by decide +kernel) (hts (.classLink RX3 23 "java/lang/IllegalArgumentException") (List.mem_of_getElem? (i := 3) rfl)) (hts (.initialized "java/lang/IllegalArgumentException") (List.mem_of_getElem? (i := 4) rfl)) (List.mem_of_getElem? (i := 2) rfl) hV hZ (fun w h => hts w (List.mem_cons_of_mem _ (List.mem_append_right _ h))) xcovA xotA hS hP (hl.1.trans hml.symm) dX3_setGate_30 dX3_setGate_33 dX3_setGate_34 dX3_setGate_36 dX3_setGate_39 htb hlocks (Nat.le_of_ble_eq_true rfl) (Nat.le_of_ble_eq_true rfl) (Nat.le_of_ble_eq_true rfl) (Nat.le_of_ble_eq_true rfl) (Nat.le_of_ble_eq_true rfl) (Nat.le_of_ble_eq_true rfl)

set_option maxHeartbeats 4000000 in
set_option maxRecDepth 100000 in
/-- open -/
theorem c_X3_open (l : Launch) (D : va_G) (cy : Nat → ClassId) (h : Nat) (ad : Nat → Nat) (nS nB : Nat) (st bk : Nat → Iu) (gate nu : Iu) (bt : Nat) (wt : va_W) (p0 p1 : Int32) (h1 : (0 : Int32) ≤ p0 ∧ p0 ≤ 900) (h2 : (0 : Int32) ≤ p1 ∧ p1 ≤ 50) (hroom : nS < 4) : xM l D cy yX3_open wsX3_open ({ frames := 6, cells := 2, slots := 9, locals := 120 } : Room) [.ref h, .int p0, .int p1] (xw cy h ad nS nB st bk gate nu bt wt) (fun _ : Nat => some (.int (nI nS))) (fun _ => True) (fun q => xw cy h (va_up ad (4 + nS) q) (nS + 1) nB (va_up st nS (newS p0 p1)) bk gate nu bt wt) := by
  refine xM.of cX3_open 4 (some .int) RX3 (by decide +kernel) rfl rfl (Nat.le_of_ble_eq_true rfl) ?_
  intro p e s m below meth c A ls hx hb hr hts hown hlocks hml hin hK hA hP hD hS hl
  have hl : lv_has ls 4 [(0, .ref h), (1, .int p0), (2, .int p1)] := hl
  have hinX3 : ∀ w ∈ wsX30, w ∈ wsX3_open := fun _ h => List.mem_cons_of_mem _ (List.mem_append_left _ (List.mem_append_left _ (List.mem_append_left _ (List.mem_append_left _ (List.mem_append_right _ h)))))
  refine lv_iload_n hx hb dX3_open_0 rfl (lv_at hl 1 rfl) ?_
  refine lv_iconst (v := 0) hx hb dX3_open_1 (by decide) ?_
  refine lv_sipush (v := 900) hx hb dX3_open_2 (by decide) ?_
  refine xcS (As := [.int p0, .int 0, .int 900]) (rest := []) ⟨hx, hb, hml, hown, hts⟩ (c_X3_isWithin l D cy p0 0 900) (va_cwS 3 hts gX3_open_X3_isWithin rfl rfl rfl (by decide +kernel) ⟨Nat.le_of_ble_eq_true rfl, Nat.le_of_ble_eq_true rfl⟩) hK hP hD hS hA (xE_nil) rfl hl.1 rfl (Nat.le_of_ble_eq_true rfl) dX3_open_5 ⟨Nat.le_of_ble_eq_true rfl, Nat.le_of_ble_eq_true rfl⟩ (fun _ H locs _ hP hD hS => ?_)
  have hP : va_P D vwCl (xw cy h ad nS nB st bk gate nu bt wt) H := hP
  have hD : va_D A (xw cy h ad nS nB st bk gate nu bt wt) := hD
  refine W.eq (g2 := F0 m 8 ls [.int (wi p0 0 900)]) rfl ?_
  refine lv_if_ne (tgt := 21) hx hb dX3_open_8 (by decide) (fun _ => ?_) (fun z => absurd z (wi_ok h1))
  refine lv_iload_n hx hb dX3_open_21 rfl (lv_at hl 2 rfl) ?_
  refine lv_iconst (v := 0) hx hb dX3_open_22 (by decide) ?_
  refine lv_bipush (v := 50) hx hb dX3_open_23 (by decide) ?_
  refine xcS (As := [.int p1, .int 0, .int 50]) (rest := []) ⟨hx, hb, hml, hown, hts⟩ (c_X3_isWithin l D cy p1 0 50) (va_cwS 3 hts gX3_open_X3_isWithin rfl rfl rfl (by decide +kernel) ⟨Nat.le_of_ble_eq_true rfl, Nat.le_of_ble_eq_true rfl⟩) hK hP hD hS hA (xE_nil) rfl hl.1 rfl (Nat.le_of_ble_eq_true rfl) dX3_open_25 ⟨Nat.le_of_ble_eq_true rfl, Nat.le_of_ble_eq_true rfl⟩ (fun _ H locs _ hP hD hS => ?_)
  have hP : va_P D vwCl (xw cy h ad nS nB st bk gate nu bt wt) H := hP
  have hD : va_D A (xw cy h ad nS nB st bk gate nu bt wt) := hD
  refine W.eq (g2 := F0 m 28 ls [.int (wi p1 0 50)]) rfl ?_
  refine lv_if_ne (tgt := 41) hx hb dX3_open_28 (by decide) (fun _ => ?_) (fun z => absurd z (wi_ok h2))
  refine lv_aload_n hx hb dX3_open_41 rfl (lv_at hl 0 rfl) ?_
  refine va_get (D := D) (ci := 3) (v := .ref (ad 0)) (C := RX3) (T := TX3) (N := 2) hx hb hts hinX3 hown hK.1 hP 0 rfl rfl 0 (by decide) (hts (.fieldLink RX3 10 "LoafMarks" "town" "LLoafMarks$Town;") (List.mem_of_getElem? (i := 5) rfl)) (fun _ h9 => h9) rfl dX3_open_42 ?_
  refine lv_iload_n hx hb dX3_open_45 rfl (lv_at hl 1 rfl) ?_
  refine lv_iload_n hx hb dX3_open_46 rfl (lv_at hl 2 rfl) ?_
  refine xcV (As := [.int p0, .int p1]) (rest := []) ⟨hx, hb, hml, hown, hts⟩ (c_X2_addStore l D cy ad nS nB st bk gate nu p0 p1 hroom) (cwV 2 hts gX3_open_X2_addStore rfl rfl rfl (by decide +kernel) ⟨Nat.le_of_ble_eq_true rfl, Nat.le_of_ble_eq_true rfl⟩) hK hP hD hS hA rfl rfl rfl (xE_town) rfl hl.1 rfl (Nat.le_of_ble_eq_true rfl) dX3_open_47 ⟨Nat.le_of_ble_eq_true rfl, Nat.le_of_ble_eq_true rfl⟩ (fun q H locs _ hP hD hS => ?_)
  have hP : va_P D vwCl (xw cy h (va_up ad (4 + nS) q) (nS + 1) nB (va_up st nS (newS p0 p1)) bk gate nu bt wt) H := by unfold xw; rw [up_ne (by omega)]; exact hP
  have hD : va_D A (xw cy h (va_up ad (4 + nS) q) (nS + 1) nB (va_up st nS (newS p0 p1)) bk gate nu bt wt) := by unfold xw; rw [up_ne (by omega)]; exact hD
  refine W.eq (g2 := F0 m 50 ls [.int (nI nS)]) rfl ?_
  refine lv_istore_n (lv' := [(3, .int (nI nS)), (0, .ref h), (1, .int p0), (2, .int p1)]) hx hb dX3_open_50 rfl hl (by decide) rfl (fun ls hl => ?_)
  refine lv_iload_n hx hb dX3_open_51 rfl (lv_at hl 0 rfl) ?_
  refine lv_if_ge (tgt := 65) hx hb dX3_open_52 (by decide) (fun _ => ?_) (fun h => absurd (nI_pos' (by omega)) h)
  refine lv_iload_n hx hb dX3_open_65 rfl (lv_at hl 0 rfl) ?_
  exact xri q hx hb hr hlocks hS (Nat.le_of_ble_eq_true rfl) (Nat.le_of_ble_eq_true rfl) dX3_open_66 hP hD rfl trivial

set_option maxHeartbeats 4000000 in
set_option maxRecDepth 100000 in
theorem c_X3_open_1a (l : Launch) (hst : l.stackTraces = false) (D : va_G) (cy : Nat → ClassId) (sa : Nat → Nat) (h : Nat) (ad : Nat → Nat) (nS nB : Nat) (st bk : Nat → Iu) (gate nu : Iu) (bt : Nat) (wt : va_W) (p0 p1 : Int32) (h1 : ¬ ((0 : Int32) ≤ p0 ∧ p0 ≤ 900)) : xT l D cy sa yX3_open wsX3_open ({ frames := 6, cells := 2, slots := 9, locals := 120 } : Room) [.ref h, .int p0, .int p1] (xw cy h ad nS nB st bk gate nu bt wt) E_A := by
  refine xT.of cX3_open 4 (some .int) RX3 (by decide +kernel) rfl rfl (Nat.le_of_ble_eq_true rfl) ?_
  intro p e s m below meth c A ls hx hb hr hts hown hlocks hml hin hK hA hP hD hS hV hZ htb hl
  have hl : lv_has ls 4 [(0, .ref h), (1, .int p0), (2, .int p1)] := hl
  refine lv_iload_n hx hb dX3_open_0 rfl (lv_at hl 1 rfl) ?_
  refine lv_iconst (v := 0) hx hb dX3_open_1 (by decide) ?_
  refine lv_sipush (v := 900) hx hb dX3_open_2 (by decide) ?_
  refine xcS (As := [.int p0, .int 0, .int 900]) (rest := []) ⟨hx, hb, hml, hown, hts⟩ (c_X3_isWithin l D cy p0 0 900) (va_cwS 3 hts gX3_open_X3_isWithin rfl rfl rfl (by decide +kernel) ⟨Nat.le_of_ble_eq_true rfl, Nat.le_of_ble_eq_true rfl⟩) hK hP hD hS hA (xE_nil) rfl hl.1 rfl (Nat.le_of_ble_eq_true rfl) dX3_open_5 ⟨Nat.le_of_ble_eq_true rfl, Nat.le_of_ble_eq_true rfl⟩ (fun _ H locs _ hP hD hS => ?_)
  have hP : va_P D vwCl (xw cy h ad nS nB st bk gate nu bt wt) H := hP
  have hD : va_D A (xw cy h ad nS nB st bk gate nu bt wt) := hD
  refine W.eq (g2 := F0 m 8 ls [.int (wi p0 0 900)]) rfl ?_
  refine lv_if_ne (tgt := 21) hx hb dX3_open_8 (by decide) (fun z => absurd (wi_no h1) z) (fun _ => ?_)
  exact xthrow (cls := E_A) (text := "flour is not 0 to 900") hx hb hst hown (by decide +kernel) (hts (.classLink RX3 23 "java/lang/IllegalArgumentException") (List.mem_of_getElem? (i := 1) rfl)) (hts (.initialized "java/lang/IllegalArgumentException") (List.mem_of_getElem? (i := 2) rfl)) (List.mem_of_getElem? (i := 3) rfl) hV hZ (fun w h => hts w (List.mem_cons_of_mem _ (List.mem_append_left _ (List.mem_append_right _ h)))) xcovA xotA hS hP (hl.1.trans hml.symm) dX3_open_11 dX3_open_14 dX3_open_15 dX3_open_17 dX3_open_20 htb hlocks (Nat.le_of_ble_eq_true rfl) (Nat.le_of_ble_eq_true rfl) (Nat.le_of_ble_eq_true rfl) (Nat.le_of_ble_eq_true rfl) (Nat.le_of_ble_eq_true rfl) (Nat.le_of_ble_eq_true rfl)

set_option maxHeartbeats 4000000 in
set_option maxRecDepth 100000 in
theorem c_X3_open_1b (l : Launch) (hst : l.stackTraces = false) (D : va_G) (cy : Nat → ClassId) (sa : Nat → Nat) (h : Nat) (ad : Nat → Nat) (nS nB : Nat) (st bk : Nat → Iu) (gate nu : Iu) (bt : Nat) (wt : va_W) (p0 p1 : Int32) (h1 : (0 : Int32) ≤ p0 ∧ p0 ≤ 900) (h2 : ¬ ((0 : Int32) ≤ p1 ∧ p1 ≤ 50)) : xT l D cy sa yX3_open wsX3_open ({ frames := 6, cells := 2, slots := 9, locals := 120 } : Room) [.ref h, .int p0, .int p1] (xw cy h ad nS nB st bk gate nu bt wt) E_A := by
  refine xT.of cX3_open 4 (some .int) RX3 (by decide +kernel) rfl rfl (Nat.le_of_ble_eq_true rfl) ?_
  intro p e s m below meth c A ls hx hb hr hts hown hlocks hml hin hK hA hP hD hS hV hZ htb hl
  have hl : lv_has ls 4 [(0, .ref h), (1, .int p0), (2, .int p1)] := hl
  refine lv_iload_n hx hb dX3_open_0 rfl (lv_at hl 1 rfl) ?_
  refine lv_iconst (v := 0) hx hb dX3_open_1 (by decide) ?_
  refine lv_sipush (v := 900) hx hb dX3_open_2 (by decide) ?_
  refine xcS (As := [.int p0, .int 0, .int 900]) (rest := []) ⟨hx, hb, hml, hown, hts⟩ (c_X3_isWithin l D cy p0 0 900) (va_cwS 3 hts gX3_open_X3_isWithin rfl rfl rfl (by decide +kernel) ⟨Nat.le_of_ble_eq_true rfl, Nat.le_of_ble_eq_true rfl⟩) hK hP hD hS hA (xE_nil) rfl hl.1 rfl (Nat.le_of_ble_eq_true rfl) dX3_open_5 ⟨Nat.le_of_ble_eq_true rfl, Nat.le_of_ble_eq_true rfl⟩ (fun _ H locs _ hP hD hS => ?_)
  have hP : va_P D vwCl (xw cy h ad nS nB st bk gate nu bt wt) H := hP
  have hD : va_D A (xw cy h ad nS nB st bk gate nu bt wt) := hD
  refine W.eq (g2 := F0 m 8 ls [.int (wi p0 0 900)]) rfl ?_
  refine lv_if_ne (tgt := 21) hx hb dX3_open_8 (by decide) (fun _ => ?_) (fun z => absurd z (wi_ok h1))
  refine lv_iload_n hx hb dX3_open_21 rfl (lv_at hl 2 rfl) ?_
  refine lv_iconst (v := 0) hx hb dX3_open_22 (by decide) ?_
  refine lv_bipush (v := 50) hx hb dX3_open_23 (by decide) ?_
  refine xcS (As := [.int p1, .int 0, .int 50]) (rest := []) ⟨hx, hb, hml, hown, hts⟩ (c_X3_isWithin l D cy p1 0 50) (va_cwS 3 hts gX3_open_X3_isWithin rfl rfl rfl (by decide +kernel) ⟨Nat.le_of_ble_eq_true rfl, Nat.le_of_ble_eq_true rfl⟩) hK hP hD hS hA (xE_nil) rfl hl.1 rfl (Nat.le_of_ble_eq_true rfl) dX3_open_25 ⟨Nat.le_of_ble_eq_true rfl, Nat.le_of_ble_eq_true rfl⟩ (fun _ H locs _ hP hD hS => ?_)
  have hP : va_P D vwCl (xw cy h ad nS nB st bk gate nu bt wt) H := hP
  have hD : va_D A (xw cy h ad nS nB st bk gate nu bt wt) := hD
  refine W.eq (g2 := F0 m 28 ls [.int (wi p1 0 50)]) rfl ?_
  refine lv_if_ne (tgt := 41) hx hb dX3_open_28 (by decide) (fun z => absurd (wi_no h2) z) (fun _ => ?_)
  exact xthrow (cls := E_A) (text := "weevils is not 0 to 50") hx hb hst hown (by decide +kernel) (hts (.classLink RX3 23 "java/lang/IllegalArgumentException") (List.mem_of_getElem? (i := 1) rfl)) (hts (.initialized "java/lang/IllegalArgumentException") (List.mem_of_getElem? (i := 2) rfl)) (List.mem_of_getElem? (i := 4) rfl) hV hZ (fun w h => hts w (List.mem_cons_of_mem _ (List.mem_append_left _ (List.mem_append_right _ h)))) xcovA xotA hS hP (hl.1.trans hml.symm) dX3_open_31 dX3_open_34 dX3_open_35 dX3_open_37 dX3_open_40 htb hlocks (Nat.le_of_ble_eq_true rfl) (Nat.le_of_ble_eq_true rfl) (Nat.le_of_ble_eq_true rfl) (Nat.le_of_ble_eq_true rfl) (Nat.le_of_ble_eq_true rfl) (Nat.le_of_ble_eq_true rfl)

set_option maxHeartbeats 4000000 in
set_option maxRecDepth 100000 in
theorem c_X3_open_2 (l : Launch) (hst : l.stackTraces = false) (D : va_G) (cy : Nat → ClassId) (sa : Nat → Nat) (h : Nat) (ad : Nat → Nat) (nS nB : Nat) (st bk : Nat → Iu) (gate nu : Iu) (bt : Nat) (wt : va_W) (p0 p1 : Int32) (h1 : (0 : Int32) ≤ p0 ∧ p0 ≤ 900) (h2 : (0 : Int32) ≤ p1 ∧ p1 ≤ 50) (hfull : nS = 4) : xT l D cy sa yX3_open wsX3_open ({ frames := 6, cells := 2, slots := 9, locals := 120 } : Room) [.ref h, .int p0, .int p1] (xw cy h ad nS nB st bk gate nu bt wt) E_S := by
  refine xT.of cX3_open 4 (some .int) RX3 (by decide +kernel) rfl rfl (Nat.le_of_ble_eq_true rfl) ?_
  intro p e s m below meth c A ls hx hb hr hts hown hlocks hml hin hK hA hP hD hS hV hZ htb hl
  have hl : lv_has ls 4 [(0, .ref h), (1, .int p0), (2, .int p1)] := hl
  have hinX3 : ∀ w ∈ wsX30, w ∈ wsX3_open := fun _ h => List.mem_cons_of_mem _ (List.mem_append_left _ (List.mem_append_left _ (List.mem_append_left _ (List.mem_append_left _ (List.mem_append_right _ h)))))
  refine lv_iload_n hx hb dX3_open_0 rfl (lv_at hl 1 rfl) ?_
  refine lv_iconst (v := 0) hx hb dX3_open_1 (by decide) ?_
  refine lv_sipush (v := 900) hx hb dX3_open_2 (by decide) ?_
  refine xcS (As := [.int p0, .int 0, .int 900]) (rest := []) ⟨hx, hb, hml, hown, hts⟩ (c_X3_isWithin l D cy p0 0 900) (va_cwS 3 hts gX3_open_X3_isWithin rfl rfl rfl (by decide +kernel) ⟨Nat.le_of_ble_eq_true rfl, Nat.le_of_ble_eq_true rfl⟩) hK hP hD hS hA (xE_nil) rfl hl.1 rfl (Nat.le_of_ble_eq_true rfl) dX3_open_5 ⟨Nat.le_of_ble_eq_true rfl, Nat.le_of_ble_eq_true rfl⟩ (fun _ H locs _ hP hD hS => ?_)
  have hP : va_P D vwCl (xw cy h ad nS nB st bk gate nu bt wt) H := hP
  have hD : va_D A (xw cy h ad nS nB st bk gate nu bt wt) := hD
  refine W.eq (g2 := F0 m 8 ls [.int (wi p0 0 900)]) rfl ?_
  refine lv_if_ne (tgt := 21) hx hb dX3_open_8 (by decide) (fun _ => ?_) (fun z => absurd z (wi_ok h1))
  refine lv_iload_n hx hb dX3_open_21 rfl (lv_at hl 2 rfl) ?_
  refine lv_iconst (v := 0) hx hb dX3_open_22 (by decide) ?_
  refine lv_bipush (v := 50) hx hb dX3_open_23 (by decide) ?_
  refine xcS (As := [.int p1, .int 0, .int 50]) (rest := []) ⟨hx, hb, hml, hown, hts⟩ (c_X3_isWithin l D cy p1 0 50) (va_cwS 3 hts gX3_open_X3_isWithin rfl rfl rfl (by decide +kernel) ⟨Nat.le_of_ble_eq_true rfl, Nat.le_of_ble_eq_true rfl⟩) hK hP hD hS hA (xE_nil) rfl hl.1 rfl (Nat.le_of_ble_eq_true rfl) dX3_open_25 ⟨Nat.le_of_ble_eq_true rfl, Nat.le_of_ble_eq_true rfl⟩ (fun _ H locs _ hP hD hS => ?_)
  have hP : va_P D vwCl (xw cy h ad nS nB st bk gate nu bt wt) H := hP
  have hD : va_D A (xw cy h ad nS nB st bk gate nu bt wt) := hD
  refine W.eq (g2 := F0 m 28 ls [.int (wi p1 0 50)]) rfl ?_
  refine lv_if_ne (tgt := 41) hx hb dX3_open_28 (by decide) (fun _ => ?_) (fun z => absurd z (wi_ok h2))
  refine lv_aload_n hx hb dX3_open_41 rfl (lv_at hl 0 rfl) ?_
  refine va_get (D := D) (ci := 3) (v := .ref (ad 0)) (C := RX3) (T := TX3) (N := 2) hx hb hts hinX3 hown hK.1 hP 0 rfl rfl 0 (by decide) (hts (.fieldLink RX3 10 "LoafMarks" "town" "LLoafMarks$Town;") (List.mem_of_getElem? (i := 5) rfl)) (fun _ h9 => h9) rfl dX3_open_42 ?_
  refine lv_iload_n hx hb dX3_open_45 rfl (lv_at hl 1 rfl) ?_
  refine lv_iload_n hx hb dX3_open_46 rfl (lv_at hl 2 rfl) ?_
  refine xcV (As := [.int p0, .int p1]) (rest := []) ⟨hx, hb, hml, hown, hts⟩ (c_X2_addStore_full l D cy ad nS nB st bk gate nu p0 p1 hfull) (cwV 2 hts gX3_open_X2_addStore rfl rfl rfl (by decide +kernel) ⟨Nat.le_of_ble_eq_true rfl, Nat.le_of_ble_eq_true rfl⟩) hK hP hD hS hA rfl rfl rfl (xE_town) rfl hl.1 rfl (Nat.le_of_ble_eq_true rfl) dX3_open_47 ⟨Nat.le_of_ble_eq_true rfl, Nat.le_of_ble_eq_true rfl⟩ (fun _ H locs _ hP hD hS => ?_)
  have hP : va_P D vwCl (xw cy h ad nS nB st bk gate nu bt wt) H := hP
  have hD : va_D A (xw cy h ad nS nB st bk gate nu bt wt) := hD
  refine W.eq (g2 := F0 m 50 ls [.int (-1)]) rfl ?_
  refine lv_istore_n (lv' := [(3, .int (-1)), (0, .ref h), (1, .int p0), (2, .int p1)]) hx hb dX3_open_50 rfl hl (by decide) rfl (fun ls hl => ?_)
  refine lv_iload_n hx hb dX3_open_51 rfl (lv_at hl 0 rfl) ?_
  refine lv_if_ge (tgt := 65) hx hb dX3_open_52 (by decide) (fun h => absurd h (by decide)) (fun _ => ?_)
  exact xthrow (cls := E_S) (text := "there are 4 stores") hx hb hst hown (by decide +kernel) (hts (.classLink RX3 52 "java/lang/IllegalStateException") (List.mem_of_getElem? (i := 3) rfl)) (hts (.initialized "java/lang/IllegalStateException") (List.mem_of_getElem? (i := 4) rfl)) (List.mem_of_getElem? (i := 5) rfl) hV hZ (fun w h => hts w (List.mem_cons_of_mem _ (List.mem_append_right _ h))) xcovS xotS hS hP (hl.1.trans hml.symm) dX3_open_55 dX3_open_58 dX3_open_59 dX3_open_61 dX3_open_64 htb hlocks (Nat.le_of_ble_eq_true rfl) (Nat.le_of_ble_eq_true rfl) (Nat.le_of_ble_eq_true rfl) (Nat.le_of_ble_eq_true rfl) (Nat.le_of_ble_eq_true rfl) (Nat.le_of_ble_eq_true rfl)

set_option maxHeartbeats 4000000 in
set_option maxRecDepth 100000 in
/-- smoke -/
theorem c_X3_smoke (l : Launch) (D : va_G) (cy : Nat → ClassId) (h : Nat) (ad : Nat → Nat) (nS nB : Nat) (st bk : Nat → Iu) (gate nu : Iu) (bt : Nat) (wt : va_W) (i : Nat) (hi : i < nS) (hcS : nS ≤ 4) (hcB : nB ≤ 6) : xM l D cy yX3_smoke wsX3_smoke ({ frames := 6, cells := 1, slots := 6, locals := 120 } : Room) [.ref h, .int (nI i)] (xw cy h ad nS nB st bk gate nu bt wt) (fun _ : Unit => some (.int (st i 1))) (fun _ => True) (fun _ => xw cy h ad nS nB (va_up st i (sSmoke (st i))) bk gate nu bt wt) := by
  refine xM.of cX3_smoke 3 (some .int) RX3 (by decide +kernel) rfl rfl (Nat.le_of_ble_eq_true rfl) ?_
  intro p e s m below meth c A ls hx hb hr hts hown hlocks hml hin hK hA hP hD hS hl
  have hl : lv_has ls 3 [(0, .ref h), (1, .int (nI i))] := hl
  have hinX3 : ∀ w ∈ wsX30, w ∈ wsX3_smoke := fun _ h => List.mem_cons_of_mem _ (List.mem_append_left _ (List.mem_append_left _ (List.mem_append_left _ (List.mem_append_right _ h))))
  refine lv_aload_n hx hb dX3_smoke_0 rfl (lv_at hl 0 rfl) ?_
  refine va_get (D := D) (ci := 3) (v := .ref (ad 0)) (C := RX3) (T := TX3) (N := 2) hx hb hts hinX3 hown hK.1 hP 0 rfl rfl 0 (by decide) (hts (.fieldLink RX3 10 "LoafMarks" "town" "LLoafMarks$Town;") (List.mem_of_getElem? (i := 3) rfl)) (fun _ h9 => h9) rfl dX3_smoke_1 ?_
  refine lv_iload_n hx hb dX3_smoke_4 rfl (lv_at hl 1 rfl) ?_
  refine xcV (As := [.int (nI i)]) (rest := []) ⟨hx, hb, hml, hown, hts⟩ (c_X2_storeAt l D cy ad nS nB st bk gate nu (nI i) (by omega)) (cwV 1 hts gX3_smoke_X2_storeAt rfl rfl rfl (by decide +kernel) ⟨Nat.le_of_ble_eq_true rfl, Nat.le_of_ble_eq_true rfl⟩) hK hP hD hS hA rfl rfl rfl (xE_town) rfl hl.1 rfl (Nat.le_of_ble_eq_true rfl) dX3_smoke_5 ⟨Nat.le_of_ble_eq_true rfl, Nat.le_of_ble_eq_true rfl⟩ (fun _ H locs _ hP hD hS => ?_)
  have hP : va_P D vwCl (xw cy h ad nS nB st bk gate nu bt wt) H := hP
  have hD : va_D A (xw cy h ad nS nB st bk gate nu bt wt) := hD
  refine W.eq (g2 := F0 m 8 ls [va_rf (sAt ad nS (nI i))]) rfl ?_
  refine W.eq (g2 := F0 m 8 ls [.ref (ad (4 + i))]) (by show F0 m 8 ls (va_rf (sAt ad nS (nI i)) :: _) = _; rw [sAt_nI hi hcS]) ?_
  refine lv_astore_n (lv' := [(2, .ref (ad (4 + i))), (0, .ref h), (1, .int (nI i))]) hx hb dX3_smoke_8 rfl hl (by decide) rfl (fun ls hl => ?_)
  refine lv_aload_n hx hb dX3_smoke_9 rfl (lv_at hl 0 rfl) ?_
  refine lv_ifnonnull (tgt := 23) hx hb dX3_smoke_10 (by decide) ?_
  refine lv_aload_n hx hb dX3_smoke_23 rfl (lv_at hl 0 rfl) ?_
  refine xcV (As := []) (rest := []) ⟨hx, hb, hml, hown, hts⟩ (c_X1_smokeOut l D cy (ad (4 + i)) (st i) ) (cwV 0 hts gX3_smoke_X1_smokeOut rfl rfl rfl (by decide +kernel) ⟨Nat.le_of_ble_eq_true rfl, Nat.le_of_ble_eq_true rfl⟩) hK hP hD hS hA rfl rfl rfl (xE_xst (sSmoke (st i)) hi) rfl hl.1 rfl (Nat.le_of_ble_eq_true rfl) dX3_smoke_24 ⟨Nat.le_of_ble_eq_true rfl, Nat.le_of_ble_eq_true rfl⟩ (fun _ H locs _ hP hD hS => ?_)
  have hP : va_P D vwCl (xw cy h ad nS nB (va_up st i (sSmoke (st i))) bk gate nu bt wt) H := hP
  have hD : va_D A (xw cy h ad nS nB (va_up st i (sSmoke (st i))) bk gate nu bt wt) := hD
  refine W.eq (g2 := F0 m 27 ls [.int ((st i) 1)]) rfl ?_
  exact xri () hx hb hr hlocks hS (Nat.le_of_ble_eq_true rfl) (Nat.le_of_ble_eq_true rfl) dX3_smoke_27 hP hD rfl trivial

set_option maxHeartbeats 4000000 in
set_option maxRecDepth 100000 in
theorem c_X3_smoke_1 (l : Launch) (hst : l.stackTraces = false) (D : va_G) (cy : Nat → ClassId) (sa : Nat → Nat) (h : Nat) (ad : Nat → Nat) (nS nB : Nat) (st bk : Nat → Iu) (gate nu : Iu) (bt : Nat) (wt : va_W) (p0 : Int32) (hv : ¬ vp_in p0 nS) (hcS : nS ≤ 4) (hcB : nB ≤ 6) : xT l D cy sa yX3_smoke wsX3_smoke ({ frames := 6, cells := 1, slots := 6, locals := 120 } : Room) [.ref h, .int p0] (xw cy h ad nS nB st bk gate nu bt wt) E_I := by
  refine xT.of cX3_smoke 3 (some .int) RX3 (by decide +kernel) rfl rfl (Nat.le_of_ble_eq_true rfl) ?_
  intro p e s m below meth c A ls hx hb hr hts hown hlocks hml hin hK hA hP hD hS hV hZ htb hl
  have hl : lv_has ls 3 [(0, .ref h), (1, .int p0)] := hl
  have hinX3 : ∀ w ∈ wsX30, w ∈ wsX3_smoke := fun _ h => List.mem_cons_of_mem _ (List.mem_append_left _ (List.mem_append_left _ (List.mem_append_left _ (List.mem_append_right _ h))))
  refine lv_aload_n hx hb dX3_smoke_0 rfl (lv_at hl 0 rfl) ?_
  refine va_get (D := D) (ci := 3) (v := .ref (ad 0)) (C := RX3) (T := TX3) (N := 2) hx hb hts hinX3 hown hK.1 hP 0 rfl rfl 0 (by decide) (hts (.fieldLink RX3 10 "LoafMarks" "town" "LLoafMarks$Town;") (List.mem_of_getElem? (i := 3) rfl)) (fun _ h9 => h9) rfl dX3_smoke_1 ?_
  refine lv_iload_n hx hb dX3_smoke_4 rfl (lv_at hl 1 rfl) ?_
  refine xcV (As := [.int p0]) (rest := []) ⟨hx, hb, hml, hown, hts⟩ (c_X2_storeAt l D cy ad nS nB st bk gate nu p0 (by omega)) (cwV 1 hts gX3_smoke_X2_storeAt rfl rfl rfl (by decide +kernel) ⟨Nat.le_of_ble_eq_true rfl, Nat.le_of_ble_eq_true rfl⟩) hK hP hD hS hA rfl rfl rfl (xE_town) rfl hl.1 rfl (Nat.le_of_ble_eq_true rfl) dX3_smoke_5 ⟨Nat.le_of_ble_eq_true rfl, Nat.le_of_ble_eq_true rfl⟩ (fun _ H locs _ hP hD hS => ?_)
  have hP : va_P D vwCl (xw cy h ad nS nB st bk gate nu bt wt) H := hP
  have hD : va_D A (xw cy h ad nS nB st bk gate nu bt wt) := hD
  refine W.eq (g2 := F0 m 8 ls [va_rf (sAt ad nS p0)]) rfl ?_
  refine W.eq (g2 := F0 m 8 ls [.null]) (by show F0 m 8 ls (va_rf (sAt ad nS p0) :: _) = _; rw [sAt_none hv]) ?_
  refine lv_astore_nN (lv' := [(2, .null), (0, .ref h), (1, .int p0)]) hx hb dX3_smoke_8 rfl hl (by decide) rfl (fun ls hl => ?_)
  refine lv_aload_nN hx hb dX3_smoke_9 rfl (lv_at hl 0 rfl) ?_
  refine lv_ifnonnullN hx hb dX3_smoke_10 ?_
  exact xthrow (cls := E_I) (text := "there is no such store") hx hb hst hown (by decide +kernel) (hts (.classLink RX3 34 "java/lang/IndexOutOfBoundsException") (List.mem_of_getElem? (i := 1) rfl)) (hts (.initialized "java/lang/IndexOutOfBoundsException") (List.mem_of_getElem? (i := 2) rfl)) (List.mem_of_getElem? (i := 6) rfl) hV hZ (fun w h => hts w (List.mem_cons_of_mem _ (List.mem_append_right _ h))) xcovI xotI hS hP (hl.1.trans hml.symm) dX3_smoke_13 dX3_smoke_16 dX3_smoke_17 dX3_smoke_19 dX3_smoke_22 htb hlocks (Nat.le_of_ble_eq_true rfl) (Nat.le_of_ble_eq_true rfl) (Nat.le_of_ble_eq_true rfl) (Nat.le_of_ble_eq_true rfl) (Nat.le_of_ble_eq_true rfl) (Nat.le_of_ble_eq_true rfl)

set_option maxHeartbeats 4000000 in
set_option maxRecDepth 100000 in
/-- swear -/
theorem c_X3_swear (l : Launch) (D : va_G) (cy : Nat → ClassId) (h : Nat) (ad : Nat → Nat) (nS nB : Nat) (st bk : Nat → Iu) (gate nu : Iu) (bt : Nat) (wt : va_W) (i : Nat) (hi : i < nS) (p1 p2 p3 : Int32) (h1 : (0 : Int32) ≤ p1 ∧ p1 ≤ 25) (h2 : (5 : Int32) ≤ p2 ∧ p2 ≤ 12) (h3 : (0 : Int32) ≤ p3 ∧ p3 ≤ 90) (hno : ownF bk p1 nB 0 < 0) (hroom : nB < 6) (hcS : nS ≤ 4) (hcB : nB ≤ 6) : xM l D cy yX3_swear wsX3_swear ({ frames := 6, cells := 2, slots := 14, locals := 120 } : Room) [.ref h, .int (nI i), .int p1, .int p2, .int p3] (xw cy h ad nS nB st bk gate nu bt wt) (fun _ : Nat => some (.int (nI nB))) (fun _ => True) (fun q => xw cy h (va_up ad (8 + nB) q) nS (nB + 1) st (va_up bk nB (newB (nI i) p1 p2 p3)) gate nu bt wt) := by
  refine xM.of cX3_swear 6 (some .int) RX3 (by decide +kernel) rfl rfl (Nat.le_of_ble_eq_true rfl) ?_
  intro p e s m below meth c A ls hx hb hr hts hown hlocks hml hin hK hA hP hD hS hl
  have hl : lv_has ls 6 [(0, .ref h), (1, .int (nI i)), (2, .int p1), (3, .int p2), (4, .int p3)] := hl
  have hinX3 : ∀ w ∈ wsX30, w ∈ wsX3_swear := fun _ h => List.mem_cons_of_mem _ (List.mem_append_left _ (List.mem_append_left _ (List.mem_append_left _ (List.mem_append_left _ (List.mem_append_left _ (List.mem_append_right _ h))))))
  refine lv_aload_n hx hb dX3_swear_0 rfl (lv_at hl 0 rfl) ?_
  refine va_get (D := D) (ci := 3) (v := .ref (ad 0)) (C := RX3) (T := TX3) (N := 2) hx hb hts hinX3 hown hK.1 hP 0 rfl rfl 0 (by decide) (hts (.fieldLink RX3 10 "LoafMarks" "town" "LLoafMarks$Town;") (List.mem_of_getElem? (i := 7) rfl)) (fun _ h9 => h9) rfl dX3_swear_1 ?_
  refine lv_iload_n hx hb dX3_swear_4 rfl (lv_at hl 1 rfl) ?_
  refine xcV (As := [.int (nI i)]) (rest := []) ⟨hx, hb, hml, hown, hts⟩ (c_X2_storeAt l D cy ad nS nB st bk gate nu (nI i) (by omega)) (cwV 1 hts gX3_swear_X2_storeAt rfl rfl rfl (by decide +kernel) ⟨Nat.le_of_ble_eq_true rfl, Nat.le_of_ble_eq_true rfl⟩) hK hP hD hS hA rfl rfl rfl (xE_town) rfl hl.1 rfl (Nat.le_of_ble_eq_true rfl) dX3_swear_5 ⟨Nat.le_of_ble_eq_true rfl, Nat.le_of_ble_eq_true rfl⟩ (fun _ H locs _ hP hD hS => ?_)
  have hP : va_P D vwCl (xw cy h ad nS nB st bk gate nu bt wt) H := hP
  have hD : va_D A (xw cy h ad nS nB st bk gate nu bt wt) := hD
  refine W.eq (g2 := F0 m 8 ls [va_rf (sAt ad nS (nI i))]) rfl ?_
  refine W.eq (g2 := F0 m 8 ls [.ref (ad (4 + i))]) (by show F0 m 8 ls (va_rf (sAt ad nS (nI i)) :: _) = _; rw [sAt_nI hi hcS]) ?_
  refine lv_ifnonnull (tgt := 21) hx hb dX3_swear_8 (by decide) ?_
  refine lv_iload_n hx hb dX3_swear_21 rfl (lv_at hl 2 rfl) ?_
  refine lv_iconst (v := 0) hx hb dX3_swear_22 (by decide) ?_
  refine lv_bipush (v := 25) hx hb dX3_swear_23 (by decide) ?_
  refine xcS (As := [.int p1, .int 0, .int 25]) (rest := []) ⟨hx, hb, hml, hown, hts⟩ (c_X3_isWithin l D cy p1 0 25) (va_cwS 3 hts gX3_swear_X3_isWithin rfl rfl rfl (by decide +kernel) ⟨Nat.le_of_ble_eq_true rfl, Nat.le_of_ble_eq_true rfl⟩) hK hP hD hS hA (xE_nil) rfl hl.1 rfl (Nat.le_of_ble_eq_true rfl) dX3_swear_25 ⟨Nat.le_of_ble_eq_true rfl, Nat.le_of_ble_eq_true rfl⟩ (fun _ H locs _ hP hD hS => ?_)
  have hP : va_P D vwCl (xw cy h ad nS nB st bk gate nu bt wt) H := hP
  have hD : va_D A (xw cy h ad nS nB st bk gate nu bt wt) := hD
  refine W.eq (g2 := F0 m 28 ls [.int (wi p1 0 25)]) rfl ?_
  refine lv_if_ne (tgt := 41) hx hb dX3_swear_28 (by decide) (fun _ => ?_) (fun z => absurd z (wi_ok h1))
  refine lv_iload_n hx hb dX3_swear_41 rfl (lv_at hl 3 rfl) ?_
  refine lv_iconst (v := 5) hx hb dX3_swear_42 (by decide) ?_
  refine lv_bipush (v := 12) hx hb dX3_swear_43 (by decide) ?_
  refine xcS (As := [.int p2, .int 5, .int 12]) (rest := []) ⟨hx, hb, hml, hown, hts⟩ (c_X3_isWithin l D cy p2 5 12) (va_cwS 3 hts gX3_swear_X3_isWithin rfl rfl rfl (by decide +kernel) ⟨Nat.le_of_ble_eq_true rfl, Nat.le_of_ble_eq_true rfl⟩) hK hP hD hS hA (xE_nil) rfl hl.1 rfl (Nat.le_of_ble_eq_true rfl) dX3_swear_45 ⟨Nat.le_of_ble_eq_true rfl, Nat.le_of_ble_eq_true rfl⟩ (fun _ H locs _ hP hD hS => ?_)
  have hP : va_P D vwCl (xw cy h ad nS nB st bk gate nu bt wt) H := hP
  have hD : va_D A (xw cy h ad nS nB st bk gate nu bt wt) := hD
  refine W.eq (g2 := F0 m 48 ls [.int (wi p2 5 12)]) rfl ?_
  refine lv_if_ne (tgt := 61) hx hb dX3_swear_48 (by decide) (fun _ => ?_) (fun z => absurd z (wi_ok h2))
  refine lv_iload hx hb dX3_swear_61 (lv_at hl 4 rfl) ?_
  refine lv_iconst (v := 0) hx hb dX3_swear_63 (by decide) ?_
  refine lv_bipush (v := 90) hx hb dX3_swear_64 (by decide) ?_
  refine xcS (As := [.int p3, .int 0, .int 90]) (rest := []) ⟨hx, hb, hml, hown, hts⟩ (c_X3_isWithin l D cy p3 0 90) (va_cwS 3 hts gX3_swear_X3_isWithin rfl rfl rfl (by decide +kernel) ⟨Nat.le_of_ble_eq_true rfl, Nat.le_of_ble_eq_true rfl⟩) hK hP hD hS hA (xE_nil) rfl hl.1 rfl (Nat.le_of_ble_eq_true rfl) dX3_swear_66 ⟨Nat.le_of_ble_eq_true rfl, Nat.le_of_ble_eq_true rfl⟩ (fun _ H locs _ hP hD hS => ?_)
  have hP : va_P D vwCl (xw cy h ad nS nB st bk gate nu bt wt) H := hP
  have hD : va_D A (xw cy h ad nS nB st bk gate nu bt wt) := hD
  refine W.eq (g2 := F0 m 69 ls [.int (wi p3 0 90)]) rfl ?_
  refine lv_if_ne (tgt := 82) hx hb dX3_swear_69 (by decide) (fun _ => ?_) (fun z => absurd z (wi_ok h3))
  refine lv_aload_n hx hb dX3_swear_82 rfl (lv_at hl 0 rfl) ?_
  refine va_get (D := D) (ci := 3) (v := .ref (ad 0)) (C := RX3) (T := TX3) (N := 2) hx hb hts hinX3 hown hK.1 hP 0 rfl rfl 0 (by decide) (hts (.fieldLink RX3 10 "LoafMarks" "town" "LLoafMarks$Town;") (List.mem_of_getElem? (i := 7) rfl)) (fun _ h9 => h9) rfl dX3_swear_83 ?_
  refine lv_iload_n hx hb dX3_swear_86 rfl (lv_at hl 2 rfl) ?_
  refine xcV (As := [.int p1]) (rest := []) ⟨hx, hb, hml, hown, hts⟩ (c_X2_bakerWithMark l D cy ad nS nB st bk gate nu p1 (by omega)) (cwV 1 hts gX3_swear_X2_bakerWithMark rfl rfl rfl (by decide +kernel) ⟨Nat.le_of_ble_eq_true rfl, Nat.le_of_ble_eq_true rfl⟩) hK hP hD hS hA rfl rfl rfl (xE_town) rfl hl.1 rfl (Nat.le_of_ble_eq_true rfl) dX3_swear_87 ⟨Nat.le_of_ble_eq_true rfl, Nat.le_of_ble_eq_true rfl⟩ (fun _ H locs _ hP hD hS => ?_)
  have hP : va_P D vwCl (xw cy h ad nS nB st bk gate nu bt wt) H := hP
  have hD : va_D A (xw cy h ad nS nB st bk gate nu bt wt) := hD
  refine W.eq (g2 := F0 m 90 ls [.int (ownF bk p1 nB 0)]) rfl ?_
  refine lv_if_lt (tgt := 103) hx hb dX3_swear_90 (by decide) (fun _ => ?_) (fun h => absurd hno h)
  refine lv_aload_n hx hb dX3_swear_103 rfl (lv_at hl 0 rfl) ?_
  refine va_get (D := D) (ci := 3) (v := .ref (ad 0)) (C := RX3) (T := TX3) (N := 2) hx hb hts hinX3 hown hK.1 hP 0 rfl rfl 0 (by decide) (hts (.fieldLink RX3 10 "LoafMarks" "town" "LLoafMarks$Town;") (List.mem_of_getElem? (i := 7) rfl)) (fun _ h9 => h9) rfl dX3_swear_104 ?_
  refine lv_iload_n hx hb dX3_swear_107 rfl (lv_at hl 1 rfl) ?_
  refine lv_iload_n hx hb dX3_swear_108 rfl (lv_at hl 2 rfl) ?_
  refine lv_iload_n hx hb dX3_swear_109 rfl (lv_at hl 3 rfl) ?_
  refine lv_iload hx hb dX3_swear_110 (lv_at hl 4 rfl) ?_
  refine xcV (As := [.int (nI i), .int p1, .int p2, .int p3]) (rest := []) ⟨hx, hb, hml, hown, hts⟩ (c_X2_addBaker l D cy ad nS nB st bk gate nu (nI i) p1 p2 p3 hroom hcS) (cwV 4 hts gX3_swear_X2_addBaker rfl rfl rfl (by decide +kernel) ⟨Nat.le_of_ble_eq_true rfl, Nat.le_of_ble_eq_true rfl⟩) hK hP hD hS hA rfl rfl rfl (xE_town) rfl hl.1 rfl (Nat.le_of_ble_eq_true rfl) dX3_swear_112 ⟨Nat.le_of_ble_eq_true rfl, Nat.le_of_ble_eq_true rfl⟩ (fun q H locs _ hP hD hS => ?_)
  have hP : va_P D vwCl (xw cy h (va_up ad (8 + nB) q) nS (nB + 1) st (va_up bk nB (newB (nI i) p1 p2 p3)) gate nu bt wt) H := by unfold xw; rw [up_ne (by omega)]; exact hP
  have hD : va_D A (xw cy h (va_up ad (8 + nB) q) nS (nB + 1) st (va_up bk nB (newB (nI i) p1 p2 p3)) gate nu bt wt) := by unfold xw; rw [up_ne (by omega)]; exact hD
  refine W.eq (g2 := F0 m 115 ls [.int (nI nB)]) rfl ?_
  refine lv_istore (lv' := [(5, .int (nI nB)), (0, .ref h), (1, .int (nI i)), (2, .int p1), (3, .int p2), (4, .int p3)]) hx hb dX3_swear_115 hl (by decide) rfl (fun ls hl => ?_)
  refine lv_iload hx hb dX3_swear_117 (lv_at hl 0 rfl) ?_
  refine lv_if_ge (tgt := 132) hx hb dX3_swear_119 (by decide) (fun _ => ?_) (fun h => absurd (nI_pos' (by omega)) h)
  refine lv_iload hx hb dX3_swear_132 (lv_at hl 0 rfl) ?_
  exact xri q hx hb hr hlocks hS (Nat.le_of_ble_eq_true rfl) (Nat.le_of_ble_eq_true rfl) dX3_swear_134 hP hD rfl trivial

set_option maxHeartbeats 4000000 in
set_option maxRecDepth 100000 in
theorem c_X3_swear_1 (l : Launch) (hst : l.stackTraces = false) (D : va_G) (cy : Nat → ClassId) (sa : Nat → Nat) (h : Nat) (ad : Nat → Nat) (nS nB : Nat) (st bk : Nat → Iu) (gate nu : Iu) (bt : Nat) (wt : va_W) (p0 : Int32) (p1 p2 p3 : Int32) (hv : ¬ vp_in p0 nS) (hcS : nS ≤ 4) (hcB : nB ≤ 6) : xT l D cy sa yX3_swear wsX3_swear ({ frames := 6, cells := 2, slots := 14, locals := 120 } : Room) [.ref h, .int p0, .int p1, .int p2, .int p3] (xw cy h ad nS nB st bk gate nu bt wt) E_I := by
  refine xT.of cX3_swear 6 (some .int) RX3 (by decide +kernel) rfl rfl (Nat.le_of_ble_eq_true rfl) ?_
  intro p e s m below meth c A ls hx hb hr hts hown hlocks hml hin hK hA hP hD hS hV hZ htb hl
  have hl : lv_has ls 6 [(0, .ref h), (1, .int p0), (2, .int p1), (3, .int p2), (4, .int p3)] := hl
  have hinX3 : ∀ w ∈ wsX30, w ∈ wsX3_swear := fun _ h => List.mem_cons_of_mem _ (List.mem_append_left _ (List.mem_append_left _ (List.mem_append_left _ (List.mem_append_left _ (List.mem_append_left _ (List.mem_append_right _ h))))))
  refine lv_aload_n hx hb dX3_swear_0 rfl (lv_at hl 0 rfl) ?_
  refine va_get (D := D) (ci := 3) (v := .ref (ad 0)) (C := RX3) (T := TX3) (N := 2) hx hb hts hinX3 hown hK.1 hP 0 rfl rfl 0 (by decide) (hts (.fieldLink RX3 10 "LoafMarks" "town" "LLoafMarks$Town;") (List.mem_of_getElem? (i := 7) rfl)) (fun _ h9 => h9) rfl dX3_swear_1 ?_
  refine lv_iload_n hx hb dX3_swear_4 rfl (lv_at hl 1 rfl) ?_
  refine xcV (As := [.int p0]) (rest := []) ⟨hx, hb, hml, hown, hts⟩ (c_X2_storeAt l D cy ad nS nB st bk gate nu p0 (by omega)) (cwV 1 hts gX3_swear_X2_storeAt rfl rfl rfl (by decide +kernel) ⟨Nat.le_of_ble_eq_true rfl, Nat.le_of_ble_eq_true rfl⟩) hK hP hD hS hA rfl rfl rfl (xE_town) rfl hl.1 rfl (Nat.le_of_ble_eq_true rfl) dX3_swear_5 ⟨Nat.le_of_ble_eq_true rfl, Nat.le_of_ble_eq_true rfl⟩ (fun _ H locs _ hP hD hS => ?_)
  have hP : va_P D vwCl (xw cy h ad nS nB st bk gate nu bt wt) H := hP
  have hD : va_D A (xw cy h ad nS nB st bk gate nu bt wt) := hD
  refine W.eq (g2 := F0 m 8 ls [va_rf (sAt ad nS p0)]) rfl ?_
  refine W.eq (g2 := F0 m 8 ls [.null]) (by show F0 m 8 ls (va_rf (sAt ad nS p0) :: _) = _; rw [sAt_none hv]) ?_
  refine lv_ifnonnullN hx hb dX3_swear_8 ?_
  exact xthrow (cls := E_I) (text := "there is no such store") hx hb hst hown (by decide +kernel) (hts (.classLink RX3 34 "java/lang/IndexOutOfBoundsException") (List.mem_of_getElem? (i := 1) rfl)) (hts (.initialized "java/lang/IndexOutOfBoundsException") (List.mem_of_getElem? (i := 2) rfl)) (List.mem_of_getElem? (i := 6) rfl) hV hZ (fun w h => hts w (List.mem_cons_of_mem _ (List.mem_append_left _ (List.mem_append_left _ (List.mem_append_right _ h))))) xcovI xotI hS hP (hl.1.trans hml.symm) dX3_swear_11 dX3_swear_14 dX3_swear_15 dX3_swear_17 dX3_swear_20 htb hlocks (Nat.le_of_ble_eq_true rfl) (Nat.le_of_ble_eq_true rfl) (Nat.le_of_ble_eq_true rfl) (Nat.le_of_ble_eq_true rfl) (Nat.le_of_ble_eq_true rfl) (Nat.le_of_ble_eq_true rfl)

set_option maxHeartbeats 4000000 in
set_option maxRecDepth 100000 in
theorem c_X3_swear_2a (l : Launch) (hst : l.stackTraces = false) (D : va_G) (cy : Nat → ClassId) (sa : Nat → Nat) (h : Nat) (ad : Nat → Nat) (nS nB : Nat) (st bk : Nat → Iu) (gate nu : Iu) (bt : Nat) (wt : va_W) (i : Nat) (hi : i < nS) (p1 p2 p3 : Int32) (h1 : ¬ ((0 : Int32) ≤ p1 ∧ p1 ≤ 25)) (hcS : nS ≤ 4) (hcB : nB ≤ 6) : xT l D cy sa yX3_swear wsX3_swear ({ frames := 6, cells := 2, slots := 14, locals := 120 } : Room) [.ref h, .int (nI i), .int p1, .int p2, .int p3] (xw cy h ad nS nB st bk gate nu bt wt) E_A := by
  refine xT.of cX3_swear 6 (some .int) RX3 (by decide +kernel) rfl rfl (Nat.le_of_ble_eq_true rfl) ?_
  intro p e s m below meth c A ls hx hb hr hts hown hlocks hml hin hK hA hP hD hS hV hZ htb hl
  have hl : lv_has ls 6 [(0, .ref h), (1, .int (nI i)), (2, .int p1), (3, .int p2), (4, .int p3)] := hl
  have hinX3 : ∀ w ∈ wsX30, w ∈ wsX3_swear := fun _ h => List.mem_cons_of_mem _ (List.mem_append_left _ (List.mem_append_left _ (List.mem_append_left _ (List.mem_append_left _ (List.mem_append_left _ (List.mem_append_right _ h))))))
  refine lv_aload_n hx hb dX3_swear_0 rfl (lv_at hl 0 rfl) ?_
  refine va_get (D := D) (ci := 3) (v := .ref (ad 0)) (C := RX3) (T := TX3) (N := 2) hx hb hts hinX3 hown hK.1 hP 0 rfl rfl 0 (by decide) (hts (.fieldLink RX3 10 "LoafMarks" "town" "LLoafMarks$Town;") (List.mem_of_getElem? (i := 7) rfl)) (fun _ h9 => h9) rfl dX3_swear_1 ?_
  refine lv_iload_n hx hb dX3_swear_4 rfl (lv_at hl 1 rfl) ?_
  refine xcV (As := [.int (nI i)]) (rest := []) ⟨hx, hb, hml, hown, hts⟩ (c_X2_storeAt l D cy ad nS nB st bk gate nu (nI i) (by omega)) (cwV 1 hts gX3_swear_X2_storeAt rfl rfl rfl (by decide +kernel) ⟨Nat.le_of_ble_eq_true rfl, Nat.le_of_ble_eq_true rfl⟩) hK hP hD hS hA rfl rfl rfl (xE_town) rfl hl.1 rfl (Nat.le_of_ble_eq_true rfl) dX3_swear_5 ⟨Nat.le_of_ble_eq_true rfl, Nat.le_of_ble_eq_true rfl⟩ (fun _ H locs _ hP hD hS => ?_)
  have hP : va_P D vwCl (xw cy h ad nS nB st bk gate nu bt wt) H := hP
  have hD : va_D A (xw cy h ad nS nB st bk gate nu bt wt) := hD
  refine W.eq (g2 := F0 m 8 ls [va_rf (sAt ad nS (nI i))]) rfl ?_
  refine W.eq (g2 := F0 m 8 ls [.ref (ad (4 + i))]) (by show F0 m 8 ls (va_rf (sAt ad nS (nI i)) :: _) = _; rw [sAt_nI hi hcS]) ?_
  refine lv_ifnonnull (tgt := 21) hx hb dX3_swear_8 (by decide) ?_
  refine lv_iload_n hx hb dX3_swear_21 rfl (lv_at hl 2 rfl) ?_
  refine lv_iconst (v := 0) hx hb dX3_swear_22 (by decide) ?_
  refine lv_bipush (v := 25) hx hb dX3_swear_23 (by decide) ?_
  refine xcS (As := [.int p1, .int 0, .int 25]) (rest := []) ⟨hx, hb, hml, hown, hts⟩ (c_X3_isWithin l D cy p1 0 25) (va_cwS 3 hts gX3_swear_X3_isWithin rfl rfl rfl (by decide +kernel) ⟨Nat.le_of_ble_eq_true rfl, Nat.le_of_ble_eq_true rfl⟩) hK hP hD hS hA (xE_nil) rfl hl.1 rfl (Nat.le_of_ble_eq_true rfl) dX3_swear_25 ⟨Nat.le_of_ble_eq_true rfl, Nat.le_of_ble_eq_true rfl⟩ (fun _ H locs _ hP hD hS => ?_)
  have hP : va_P D vwCl (xw cy h ad nS nB st bk gate nu bt wt) H := hP
  have hD : va_D A (xw cy h ad nS nB st bk gate nu bt wt) := hD
  refine W.eq (g2 := F0 m 28 ls [.int (wi p1 0 25)]) rfl ?_
  refine lv_if_ne (tgt := 41) hx hb dX3_swear_28 (by decide) (fun z => absurd (wi_no h1) z) (fun _ => ?_)
  exact xthrow (cls := E_A) (text := "mark is not 0 to 25") hx hb hst hown (by decide +kernel) (hts (.classLink RX3 23 "java/lang/IllegalArgumentException") (List.mem_of_getElem? (i := 3) rfl)) (hts (.initialized "java/lang/IllegalArgumentException") (List.mem_of_getElem? (i := 4) rfl)) (List.mem_of_getElem? (i := 7) rfl) hV hZ (fun w h => hts w (List.mem_cons_of_mem _ (List.mem_append_left _ (List.mem_append_right _ h)))) xcovA xotA hS hP (hl.1.trans hml.symm) dX3_swear_31 dX3_swear_34 dX3_swear_35 dX3_swear_37 dX3_swear_40 htb hlocks (Nat.le_of_ble_eq_true rfl) (Nat.le_of_ble_eq_true rfl) (Nat.le_of_ble_eq_true rfl) (Nat.le_of_ble_eq_true rfl) (Nat.le_of_ble_eq_true rfl) (Nat.le_of_ble_eq_true rfl)

set_option maxHeartbeats 4000000 in
set_option maxRecDepth 100000 in
theorem c_X3_swear_2b (l : Launch) (hst : l.stackTraces = false) (D : va_G) (cy : Nat → ClassId) (sa : Nat → Nat) (h : Nat) (ad : Nat → Nat) (nS nB : Nat) (st bk : Nat → Iu) (gate nu : Iu) (bt : Nat) (wt : va_W) (i : Nat) (hi : i < nS) (p1 p2 p3 : Int32) (h1 : (0 : Int32) ≤ p1 ∧ p1 ≤ 25) (h2 : ¬ ((5 : Int32) ≤ p2 ∧ p2 ≤ 12)) (hcS : nS ≤ 4) (hcB : nB ≤ 6) : xT l D cy sa yX3_swear wsX3_swear ({ frames := 6, cells := 2, slots := 14, locals := 120 } : Room) [.ref h, .int (nI i), .int p1, .int p2, .int p3] (xw cy h ad nS nB st bk gate nu bt wt) E_A := by
  refine xT.of cX3_swear 6 (some .int) RX3 (by decide +kernel) rfl rfl (Nat.le_of_ble_eq_true rfl) ?_
  intro p e s m below meth c A ls hx hb hr hts hown hlocks hml hin hK hA hP hD hS hV hZ htb hl
  have hl : lv_has ls 6 [(0, .ref h), (1, .int (nI i)), (2, .int p1), (3, .int p2), (4, .int p3)] := hl
  have hinX3 : ∀ w ∈ wsX30, w ∈ wsX3_swear := fun _ h => List.mem_cons_of_mem _ (List.mem_append_left _ (List.mem_append_left _ (List.mem_append_left _ (List.mem_append_left _ (List.mem_append_left _ (List.mem_append_right _ h))))))
  refine lv_aload_n hx hb dX3_swear_0 rfl (lv_at hl 0 rfl) ?_
  refine va_get (D := D) (ci := 3) (v := .ref (ad 0)) (C := RX3) (T := TX3) (N := 2) hx hb hts hinX3 hown hK.1 hP 0 rfl rfl 0 (by decide) (hts (.fieldLink RX3 10 "LoafMarks" "town" "LLoafMarks$Town;") (List.mem_of_getElem? (i := 7) rfl)) (fun _ h9 => h9) rfl dX3_swear_1 ?_
  refine lv_iload_n hx hb dX3_swear_4 rfl (lv_at hl 1 rfl) ?_
  refine xcV (As := [.int (nI i)]) (rest := []) ⟨hx, hb, hml, hown, hts⟩ (c_X2_storeAt l D cy ad nS nB st bk gate nu (nI i) (by omega)) (cwV 1 hts gX3_swear_X2_storeAt rfl rfl rfl (by decide +kernel) ⟨Nat.le_of_ble_eq_true rfl, Nat.le_of_ble_eq_true rfl⟩) hK hP hD hS hA rfl rfl rfl (xE_town) rfl hl.1 rfl (Nat.le_of_ble_eq_true rfl) dX3_swear_5 ⟨Nat.le_of_ble_eq_true rfl, Nat.le_of_ble_eq_true rfl⟩ (fun _ H locs _ hP hD hS => ?_)
  have hP : va_P D vwCl (xw cy h ad nS nB st bk gate nu bt wt) H := hP
  have hD : va_D A (xw cy h ad nS nB st bk gate nu bt wt) := hD
  refine W.eq (g2 := F0 m 8 ls [va_rf (sAt ad nS (nI i))]) rfl ?_
  refine W.eq (g2 := F0 m 8 ls [.ref (ad (4 + i))]) (by show F0 m 8 ls (va_rf (sAt ad nS (nI i)) :: _) = _; rw [sAt_nI hi hcS]) ?_
  refine lv_ifnonnull (tgt := 21) hx hb dX3_swear_8 (by decide) ?_
  refine lv_iload_n hx hb dX3_swear_21 rfl (lv_at hl 2 rfl) ?_
  refine lv_iconst (v := 0) hx hb dX3_swear_22 (by decide) ?_
  refine lv_bipush (v := 25) hx hb dX3_swear_23 (by decide) ?_
  refine xcS (As := [.int p1, .int 0, .int 25]) (rest := []) ⟨hx, hb, hml, hown, hts⟩ (c_X3_isWithin l D cy p1 0 25) (va_cwS 3 hts gX3_swear_X3_isWithin rfl rfl rfl (by decide +kernel) ⟨Nat.le_of_ble_eq_true rfl, Nat.le_of_ble_eq_true rfl⟩) hK hP hD hS hA (xE_nil) rfl hl.1 rfl (Nat.le_of_ble_eq_true rfl) dX3_swear_25 ⟨Nat.le_of_ble_eq_true rfl, Nat.le_of_ble_eq_true rfl⟩ (fun _ H locs _ hP hD hS => ?_)
  have hP : va_P D vwCl (xw cy h ad nS nB st bk gate nu bt wt) H := hP
  have hD : va_D A (xw cy h ad nS nB st bk gate nu bt wt) := hD
  refine W.eq (g2 := F0 m 28 ls [.int (wi p1 0 25)]) rfl ?_
  refine lv_if_ne (tgt := 41) hx hb dX3_swear_28 (by decide) (fun _ => ?_) (fun z => absurd z (wi_ok h1))
  refine lv_iload_n hx hb dX3_swear_41 rfl (lv_at hl 3 rfl) ?_
  refine lv_iconst (v := 5) hx hb dX3_swear_42 (by decide) ?_
  refine lv_bipush (v := 12) hx hb dX3_swear_43 (by decide) ?_
  refine xcS (As := [.int p2, .int 5, .int 12]) (rest := []) ⟨hx, hb, hml, hown, hts⟩ (c_X3_isWithin l D cy p2 5 12) (va_cwS 3 hts gX3_swear_X3_isWithin rfl rfl rfl (by decide +kernel) ⟨Nat.le_of_ble_eq_true rfl, Nat.le_of_ble_eq_true rfl⟩) hK hP hD hS hA (xE_nil) rfl hl.1 rfl (Nat.le_of_ble_eq_true rfl) dX3_swear_45 ⟨Nat.le_of_ble_eq_true rfl, Nat.le_of_ble_eq_true rfl⟩ (fun _ H locs _ hP hD hS => ?_)
  have hP : va_P D vwCl (xw cy h ad nS nB st bk gate nu bt wt) H := hP
  have hD : va_D A (xw cy h ad nS nB st bk gate nu bt wt) := hD
  refine W.eq (g2 := F0 m 48 ls [.int (wi p2 5 12)]) rfl ?_
  refine lv_if_ne (tgt := 61) hx hb dX3_swear_48 (by decide) (fun z => absurd (wi_no h2) z) (fun _ => ?_)
  exact xthrow (cls := E_A) (text := "weight is not 5 to 12") hx hb hst hown (by decide +kernel) (hts (.classLink RX3 23 "java/lang/IllegalArgumentException") (List.mem_of_getElem? (i := 3) rfl)) (hts (.initialized "java/lang/IllegalArgumentException") (List.mem_of_getElem? (i := 4) rfl)) (List.mem_of_getElem? (i := 8) rfl) hV hZ (fun w h => hts w (List.mem_cons_of_mem _ (List.mem_append_left _ (List.mem_append_right _ h)))) xcovA xotA hS hP (hl.1.trans hml.symm) dX3_swear_51 dX3_swear_54 dX3_swear_55 dX3_swear_57 dX3_swear_60 htb hlocks (Nat.le_of_ble_eq_true rfl) (Nat.le_of_ble_eq_true rfl) (Nat.le_of_ble_eq_true rfl) (Nat.le_of_ble_eq_true rfl) (Nat.le_of_ble_eq_true rfl) (Nat.le_of_ble_eq_true rfl)

set_option maxHeartbeats 4000000 in
set_option maxRecDepth 100000 in
theorem c_X3_swear_2c (l : Launch) (hst : l.stackTraces = false) (D : va_G) (cy : Nat → ClassId) (sa : Nat → Nat) (h : Nat) (ad : Nat → Nat) (nS nB : Nat) (st bk : Nat → Iu) (gate nu : Iu) (bt : Nat) (wt : va_W) (i : Nat) (hi : i < nS) (p1 p2 p3 : Int32) (h1 : (0 : Int32) ≤ p1 ∧ p1 ≤ 25) (h2 : (5 : Int32) ≤ p2 ∧ p2 ≤ 12) (h3 : ¬ ((0 : Int32) ≤ p3 ∧ p3 ≤ 90)) (hcS : nS ≤ 4) (hcB : nB ≤ 6) : xT l D cy sa yX3_swear wsX3_swear ({ frames := 6, cells := 2, slots := 14, locals := 120 } : Room) [.ref h, .int (nI i), .int p1, .int p2, .int p3] (xw cy h ad nS nB st bk gate nu bt wt) E_A := by
  refine xT.of cX3_swear 6 (some .int) RX3 (by decide +kernel) rfl rfl (Nat.le_of_ble_eq_true rfl) ?_
  intro p e s m below meth c A ls hx hb hr hts hown hlocks hml hin hK hA hP hD hS hV hZ htb hl
  have hl : lv_has ls 6 [(0, .ref h), (1, .int (nI i)), (2, .int p1), (3, .int p2), (4, .int p3)] := hl
  have hinX3 : ∀ w ∈ wsX30, w ∈ wsX3_swear := fun _ h => List.mem_cons_of_mem _ (List.mem_append_left _ (List.mem_append_left _ (List.mem_append_left _ (List.mem_append_left _ (List.mem_append_left _ (List.mem_append_right _ h))))))
  refine lv_aload_n hx hb dX3_swear_0 rfl (lv_at hl 0 rfl) ?_
  refine va_get (D := D) (ci := 3) (v := .ref (ad 0)) (C := RX3) (T := TX3) (N := 2) hx hb hts hinX3 hown hK.1 hP 0 rfl rfl 0 (by decide) (hts (.fieldLink RX3 10 "LoafMarks" "town" "LLoafMarks$Town;") (List.mem_of_getElem? (i := 7) rfl)) (fun _ h9 => h9) rfl dX3_swear_1 ?_
  refine lv_iload_n hx hb dX3_swear_4 rfl (lv_at hl 1 rfl) ?_
  refine xcV (As := [.int (nI i)]) (rest := []) ⟨hx, hb, hml, hown, hts⟩ (c_X2_storeAt l D cy ad nS nB st bk gate nu (nI i) (by omega)) (cwV 1 hts gX3_swear_X2_storeAt rfl rfl rfl (by decide +kernel) ⟨Nat.le_of_ble_eq_true rfl, Nat.le_of_ble_eq_true rfl⟩) hK hP hD hS hA rfl rfl rfl (xE_town) rfl hl.1 rfl (Nat.le_of_ble_eq_true rfl) dX3_swear_5 ⟨Nat.le_of_ble_eq_true rfl, Nat.le_of_ble_eq_true rfl⟩ (fun _ H locs _ hP hD hS => ?_)
  have hP : va_P D vwCl (xw cy h ad nS nB st bk gate nu bt wt) H := hP
  have hD : va_D A (xw cy h ad nS nB st bk gate nu bt wt) := hD
  refine W.eq (g2 := F0 m 8 ls [va_rf (sAt ad nS (nI i))]) rfl ?_
  refine W.eq (g2 := F0 m 8 ls [.ref (ad (4 + i))]) (by show F0 m 8 ls (va_rf (sAt ad nS (nI i)) :: _) = _; rw [sAt_nI hi hcS]) ?_
  refine lv_ifnonnull (tgt := 21) hx hb dX3_swear_8 (by decide) ?_
  refine lv_iload_n hx hb dX3_swear_21 rfl (lv_at hl 2 rfl) ?_
  refine lv_iconst (v := 0) hx hb dX3_swear_22 (by decide) ?_
  refine lv_bipush (v := 25) hx hb dX3_swear_23 (by decide) ?_
  refine xcS (As := [.int p1, .int 0, .int 25]) (rest := []) ⟨hx, hb, hml, hown, hts⟩ (c_X3_isWithin l D cy p1 0 25) (va_cwS 3 hts gX3_swear_X3_isWithin rfl rfl rfl (by decide +kernel) ⟨Nat.le_of_ble_eq_true rfl, Nat.le_of_ble_eq_true rfl⟩) hK hP hD hS hA (xE_nil) rfl hl.1 rfl (Nat.le_of_ble_eq_true rfl) dX3_swear_25 ⟨Nat.le_of_ble_eq_true rfl, Nat.le_of_ble_eq_true rfl⟩ (fun _ H locs _ hP hD hS => ?_)
  have hP : va_P D vwCl (xw cy h ad nS nB st bk gate nu bt wt) H := hP
  have hD : va_D A (xw cy h ad nS nB st bk gate nu bt wt) := hD
  refine W.eq (g2 := F0 m 28 ls [.int (wi p1 0 25)]) rfl ?_
  refine lv_if_ne (tgt := 41) hx hb dX3_swear_28 (by decide) (fun _ => ?_) (fun z => absurd z (wi_ok h1))
  refine lv_iload_n hx hb dX3_swear_41 rfl (lv_at hl 3 rfl) ?_
  refine lv_iconst (v := 5) hx hb dX3_swear_42 (by decide) ?_
  refine lv_bipush (v := 12) hx hb dX3_swear_43 (by decide) ?_
  refine xcS (As := [.int p2, .int 5, .int 12]) (rest := []) ⟨hx, hb, hml, hown, hts⟩ (c_X3_isWithin l D cy p2 5 12) (va_cwS 3 hts gX3_swear_X3_isWithin rfl rfl rfl (by decide +kernel) ⟨Nat.le_of_ble_eq_true rfl, Nat.le_of_ble_eq_true rfl⟩) hK hP hD hS hA (xE_nil) rfl hl.1 rfl (Nat.le_of_ble_eq_true rfl) dX3_swear_45 ⟨Nat.le_of_ble_eq_true rfl, Nat.le_of_ble_eq_true rfl⟩ (fun _ H locs _ hP hD hS => ?_)
  have hP : va_P D vwCl (xw cy h ad nS nB st bk gate nu bt wt) H := hP
  have hD : va_D A (xw cy h ad nS nB st bk gate nu bt wt) := hD
  refine W.eq (g2 := F0 m 48 ls [.int (wi p2 5 12)]) rfl ?_
  refine lv_if_ne (tgt := 61) hx hb dX3_swear_48 (by decide) (fun _ => ?_) (fun z => absurd z (wi_ok h2))
  refine lv_iload hx hb dX3_swear_61 (lv_at hl 4 rfl) ?_
  refine lv_iconst (v := 0) hx hb dX3_swear_63 (by decide) ?_
  refine lv_bipush (v := 90) hx hb dX3_swear_64 (by decide) ?_
  refine xcS (As := [.int p3, .int 0, .int 90]) (rest := []) ⟨hx, hb, hml, hown, hts⟩ (c_X3_isWithin l D cy p3 0 90) (va_cwS 3 hts gX3_swear_X3_isWithin rfl rfl rfl (by decide +kernel) ⟨Nat.le_of_ble_eq_true rfl, Nat.le_of_ble_eq_true rfl⟩) hK hP hD hS hA (xE_nil) rfl hl.1 rfl (Nat.le_of_ble_eq_true rfl) dX3_swear_66 ⟨Nat.le_of_ble_eq_true rfl, Nat.le_of_ble_eq_true rfl⟩ (fun _ H locs _ hP hD hS => ?_)
  have hP : va_P D vwCl (xw cy h ad nS nB st bk gate nu bt wt) H := hP
  have hD : va_D A (xw cy h ad nS nB st bk gate nu bt wt) := hD
  refine W.eq (g2 := F0 m 69 ls [.int (wi p3 0 90)]) rfl ?_
  refine lv_if_ne (tgt := 82) hx hb dX3_swear_69 (by decide) (fun z => absurd (wi_no h3) z) (fun _ => ?_)
  exact xthrow (cls := E_A) (text := "ration is not 0 to 90") hx hb hst hown (by decide +kernel) (hts (.classLink RX3 23 "java/lang/IllegalArgumentException") (List.mem_of_getElem? (i := 3) rfl)) (hts (.initialized "java/lang/IllegalArgumentException") (List.mem_of_getElem? (i := 4) rfl)) (List.mem_of_getElem? (i := 9) rfl) hV hZ (fun w h => hts w (List.mem_cons_of_mem _ (List.mem_append_left _ (List.mem_append_right _ h)))) xcovA xotA hS hP (hl.1.trans hml.symm) dX3_swear_72 dX3_swear_75 dX3_swear_76 dX3_swear_78 dX3_swear_81 htb hlocks (Nat.le_of_ble_eq_true rfl) (Nat.le_of_ble_eq_true rfl) (Nat.le_of_ble_eq_true rfl) (Nat.le_of_ble_eq_true rfl) (Nat.le_of_ble_eq_true rfl) (Nat.le_of_ble_eq_true rfl)

set_option maxHeartbeats 4000000 in
set_option maxRecDepth 100000 in
theorem c_X3_swear_3a (l : Launch) (hst : l.stackTraces = false) (D : va_G) (cy : Nat → ClassId) (sa : Nat → Nat) (h : Nat) (ad : Nat → Nat) (nS nB : Nat) (st bk : Nat → Iu) (gate nu : Iu) (bt : Nat) (wt : va_W) (i : Nat) (hi : i < nS) (p1 p2 p3 : Int32) (h1 : (0 : Int32) ≤ p1 ∧ p1 ≤ 25) (h2 : (5 : Int32) ≤ p2 ∧ p2 ≤ 12) (h3 : (0 : Int32) ≤ p3 ∧ p3 ≤ 90) (hno : ¬ ownF bk p1 nB 0 < 0) (hcS : nS ≤ 4) (hcB : nB ≤ 6) : xT l D cy sa yX3_swear wsX3_swear ({ frames := 6, cells := 2, slots := 14, locals := 120 } : Room) [.ref h, .int (nI i), .int p1, .int p2, .int p3] (xw cy h ad nS nB st bk gate nu bt wt) E_S := by
  refine xT.of cX3_swear 6 (some .int) RX3 (by decide +kernel) rfl rfl (Nat.le_of_ble_eq_true rfl) ?_
  intro p e s m below meth c A ls hx hb hr hts hown hlocks hml hin hK hA hP hD hS hV hZ htb hl
  have hl : lv_has ls 6 [(0, .ref h), (1, .int (nI i)), (2, .int p1), (3, .int p2), (4, .int p3)] := hl
  have hinX3 : ∀ w ∈ wsX30, w ∈ wsX3_swear := fun _ h => List.mem_cons_of_mem _ (List.mem_append_left _ (List.mem_append_left _ (List.mem_append_left _ (List.mem_append_left _ (List.mem_append_left _ (List.mem_append_right _ h))))))
  refine lv_aload_n hx hb dX3_swear_0 rfl (lv_at hl 0 rfl) ?_
  refine va_get (D := D) (ci := 3) (v := .ref (ad 0)) (C := RX3) (T := TX3) (N := 2) hx hb hts hinX3 hown hK.1 hP 0 rfl rfl 0 (by decide) (hts (.fieldLink RX3 10 "LoafMarks" "town" "LLoafMarks$Town;") (List.mem_of_getElem? (i := 7) rfl)) (fun _ h9 => h9) rfl dX3_swear_1 ?_
  refine lv_iload_n hx hb dX3_swear_4 rfl (lv_at hl 1 rfl) ?_
  refine xcV (As := [.int (nI i)]) (rest := []) ⟨hx, hb, hml, hown, hts⟩ (c_X2_storeAt l D cy ad nS nB st bk gate nu (nI i) (by omega)) (cwV 1 hts gX3_swear_X2_storeAt rfl rfl rfl (by decide +kernel) ⟨Nat.le_of_ble_eq_true rfl, Nat.le_of_ble_eq_true rfl⟩) hK hP hD hS hA rfl rfl rfl (xE_town) rfl hl.1 rfl (Nat.le_of_ble_eq_true rfl) dX3_swear_5 ⟨Nat.le_of_ble_eq_true rfl, Nat.le_of_ble_eq_true rfl⟩ (fun _ H locs _ hP hD hS => ?_)
  have hP : va_P D vwCl (xw cy h ad nS nB st bk gate nu bt wt) H := hP
  have hD : va_D A (xw cy h ad nS nB st bk gate nu bt wt) := hD
  refine W.eq (g2 := F0 m 8 ls [va_rf (sAt ad nS (nI i))]) rfl ?_
  refine W.eq (g2 := F0 m 8 ls [.ref (ad (4 + i))]) (by show F0 m 8 ls (va_rf (sAt ad nS (nI i)) :: _) = _; rw [sAt_nI hi hcS]) ?_
  refine lv_ifnonnull (tgt := 21) hx hb dX3_swear_8 (by decide) ?_
  refine lv_iload_n hx hb dX3_swear_21 rfl (lv_at hl 2 rfl) ?_
  refine lv_iconst (v := 0) hx hb dX3_swear_22 (by decide) ?_
  refine lv_bipush (v := 25) hx hb dX3_swear_23 (by decide) ?_
  refine xcS (As := [.int p1, .int 0, .int 25]) (rest := []) ⟨hx, hb, hml, hown, hts⟩ (c_X3_isWithin l D cy p1 0 25) (va_cwS 3 hts gX3_swear_X3_isWithin rfl rfl rfl (by decide +kernel) ⟨Nat.le_of_ble_eq_true rfl, Nat.le_of_ble_eq_true rfl⟩) hK hP hD hS hA (xE_nil) rfl hl.1 rfl (Nat.le_of_ble_eq_true rfl) dX3_swear_25 ⟨Nat.le_of_ble_eq_true rfl, Nat.le_of_ble_eq_true rfl⟩ (fun _ H locs _ hP hD hS => ?_)
  have hP : va_P D vwCl (xw cy h ad nS nB st bk gate nu bt wt) H := hP
  have hD : va_D A (xw cy h ad nS nB st bk gate nu bt wt) := hD
  refine W.eq (g2 := F0 m 28 ls [.int (wi p1 0 25)]) rfl ?_
  refine lv_if_ne (tgt := 41) hx hb dX3_swear_28 (by decide) (fun _ => ?_) (fun z => absurd z (wi_ok h1))
  refine lv_iload_n hx hb dX3_swear_41 rfl (lv_at hl 3 rfl) ?_
  refine lv_iconst (v := 5) hx hb dX3_swear_42 (by decide) ?_
  refine lv_bipush (v := 12) hx hb dX3_swear_43 (by decide) ?_
  refine xcS (As := [.int p2, .int 5, .int 12]) (rest := []) ⟨hx, hb, hml, hown, hts⟩ (c_X3_isWithin l D cy p2 5 12) (va_cwS 3 hts gX3_swear_X3_isWithin rfl rfl rfl (by decide +kernel) ⟨Nat.le_of_ble_eq_true rfl, Nat.le_of_ble_eq_true rfl⟩) hK hP hD hS hA (xE_nil) rfl hl.1 rfl (Nat.le_of_ble_eq_true rfl) dX3_swear_45 ⟨Nat.le_of_ble_eq_true rfl, Nat.le_of_ble_eq_true rfl⟩ (fun _ H locs _ hP hD hS => ?_)
  have hP : va_P D vwCl (xw cy h ad nS nB st bk gate nu bt wt) H := hP
  have hD : va_D A (xw cy h ad nS nB st bk gate nu bt wt) := hD
  refine W.eq (g2 := F0 m 48 ls [.int (wi p2 5 12)]) rfl ?_
  refine lv_if_ne (tgt := 61) hx hb dX3_swear_48 (by decide) (fun _ => ?_) (fun z => absurd z (wi_ok h2))
  refine lv_iload hx hb dX3_swear_61 (lv_at hl 4 rfl) ?_
  refine lv_iconst (v := 0) hx hb dX3_swear_63 (by decide) ?_
  refine lv_bipush (v := 90) hx hb dX3_swear_64 (by decide) ?_
  refine xcS (As := [.int p3, .int 0, .int 90]) (rest := []) ⟨hx, hb, hml, hown, hts⟩ (c_X3_isWithin l D cy p3 0 90) (va_cwS 3 hts gX3_swear_X3_isWithin rfl rfl rfl (by decide +kernel) ⟨Nat.le_of_ble_eq_true rfl, Nat.le_of_ble_eq_true rfl⟩) hK hP hD hS hA (xE_nil) rfl hl.1 rfl (Nat.le_of_ble_eq_true rfl) dX3_swear_66 ⟨Nat.le_of_ble_eq_true rfl, Nat.le_of_ble_eq_true rfl⟩ (fun _ H locs _ hP hD hS => ?_)
  have hP : va_P D vwCl (xw cy h ad nS nB st bk gate nu bt wt) H := hP
  have hD : va_D A (xw cy h ad nS nB st bk gate nu bt wt) := hD
  refine W.eq (g2 := F0 m 69 ls [.int (wi p3 0 90)]) rfl ?_
  refine lv_if_ne (tgt := 82) hx hb dX3_swear_69 (by decide) (fun _ => ?_) (fun z => absurd z (wi_ok h3))
  refine lv_aload_n hx hb dX3_swear_82 rfl (lv_at hl 0 rfl) ?_
  refine va_get (D := D) (ci := 3) (v := .ref (ad 0)) (C := RX3) (T := TX3) (N := 2) hx hb hts hinX3 hown hK.1 hP 0 rfl rfl 0 (by decide) (hts (.fieldLink RX3 10 "LoafMarks" "town" "LLoafMarks$Town;") (List.mem_of_getElem? (i := 7) rfl)) (fun _ h9 => h9) rfl dX3_swear_83 ?_
  refine lv_iload_n hx hb dX3_swear_86 rfl (lv_at hl 2 rfl) ?_
  refine xcV (As := [.int p1]) (rest := []) ⟨hx, hb, hml, hown, hts⟩ (c_X2_bakerWithMark l D cy ad nS nB st bk gate nu p1 (by omega)) (cwV 1 hts gX3_swear_X2_bakerWithMark rfl rfl rfl (by decide +kernel) ⟨Nat.le_of_ble_eq_true rfl, Nat.le_of_ble_eq_true rfl⟩) hK hP hD hS hA rfl rfl rfl (xE_town) rfl hl.1 rfl (Nat.le_of_ble_eq_true rfl) dX3_swear_87 ⟨Nat.le_of_ble_eq_true rfl, Nat.le_of_ble_eq_true rfl⟩ (fun _ H locs _ hP hD hS => ?_)
  have hP : va_P D vwCl (xw cy h ad nS nB st bk gate nu bt wt) H := hP
  have hD : va_D A (xw cy h ad nS nB st bk gate nu bt wt) := hD
  refine W.eq (g2 := F0 m 90 ls [.int (ownF bk p1 nB 0)]) rfl ?_
  refine lv_if_lt (tgt := 103) hx hb dX3_swear_90 (by decide) (fun h => absurd h hno) (fun _ => ?_)
  exact xthrow (cls := E_S) (text := "another baker has this mark") hx hb hst hown (by decide +kernel) (hts (.classLink RX3 52 "java/lang/IllegalStateException") (List.mem_of_getElem? (i := 5) rfl)) (hts (.initialized "java/lang/IllegalStateException") (List.mem_of_getElem? (i := 6) rfl)) (List.mem_of_getElem? (i := 10) rfl) hV hZ (fun w h => hts w (List.mem_cons_of_mem _ (List.mem_append_right _ h))) xcovS xotS hS hP (hl.1.trans hml.symm) dX3_swear_93 dX3_swear_96 dX3_swear_97 dX3_swear_99 dX3_swear_102 htb hlocks (Nat.le_of_ble_eq_true rfl) (Nat.le_of_ble_eq_true rfl) (Nat.le_of_ble_eq_true rfl) (Nat.le_of_ble_eq_true rfl) (Nat.le_of_ble_eq_true rfl) (Nat.le_of_ble_eq_true rfl)

set_option maxHeartbeats 4000000 in
set_option maxRecDepth 100000 in
theorem c_X3_swear_3b (l : Launch) (hst : l.stackTraces = false) (D : va_G) (cy : Nat → ClassId) (sa : Nat → Nat) (h : Nat) (ad : Nat → Nat) (nS nB : Nat) (st bk : Nat → Iu) (gate nu : Iu) (bt : Nat) (wt : va_W) (i : Nat) (hi : i < nS) (p1 p2 p3 : Int32) (h1 : (0 : Int32) ≤ p1 ∧ p1 ≤ 25) (h2 : (5 : Int32) ≤ p2 ∧ p2 ≤ 12) (h3 : (0 : Int32) ≤ p3 ∧ p3 ≤ 90) (hno : ownF bk p1 nB 0 < 0) (hfull : nB = 6) (hcS : nS ≤ 4) (hcB : nB ≤ 6) : xT l D cy sa yX3_swear wsX3_swear ({ frames := 6, cells := 2, slots := 14, locals := 120 } : Room) [.ref h, .int (nI i), .int p1, .int p2, .int p3] (xw cy h ad nS nB st bk gate nu bt wt) E_S := by
  refine xT.of cX3_swear 6 (some .int) RX3 (by decide +kernel) rfl rfl (Nat.le_of_ble_eq_true rfl) ?_
  intro p e s m below meth c A ls hx hb hr hts hown hlocks hml hin hK hA hP hD hS hV hZ htb hl
  have hl : lv_has ls 6 [(0, .ref h), (1, .int (nI i)), (2, .int p1), (3, .int p2), (4, .int p3)] := hl
  have hinX3 : ∀ w ∈ wsX30, w ∈ wsX3_swear := fun _ h => List.mem_cons_of_mem _ (List.mem_append_left _ (List.mem_append_left _ (List.mem_append_left _ (List.mem_append_left _ (List.mem_append_left _ (List.mem_append_right _ h))))))
  refine lv_aload_n hx hb dX3_swear_0 rfl (lv_at hl 0 rfl) ?_
  refine va_get (D := D) (ci := 3) (v := .ref (ad 0)) (C := RX3) (T := TX3) (N := 2) hx hb hts hinX3 hown hK.1 hP 0 rfl rfl 0 (by decide) (hts (.fieldLink RX3 10 "LoafMarks" "town" "LLoafMarks$Town;") (List.mem_of_getElem? (i := 7) rfl)) (fun _ h9 => h9) rfl dX3_swear_1 ?_
  refine lv_iload_n hx hb dX3_swear_4 rfl (lv_at hl 1 rfl) ?_
  refine xcV (As := [.int (nI i)]) (rest := []) ⟨hx, hb, hml, hown, hts⟩ (c_X2_storeAt l D cy ad nS nB st bk gate nu (nI i) (by omega)) (cwV 1 hts gX3_swear_X2_storeAt rfl rfl rfl (by decide +kernel) ⟨Nat.le_of_ble_eq_true rfl, Nat.le_of_ble_eq_true rfl⟩) hK hP hD hS hA rfl rfl rfl (xE_town) rfl hl.1 rfl (Nat.le_of_ble_eq_true rfl) dX3_swear_5 ⟨Nat.le_of_ble_eq_true rfl, Nat.le_of_ble_eq_true rfl⟩ (fun _ H locs _ hP hD hS => ?_)
  have hP : va_P D vwCl (xw cy h ad nS nB st bk gate nu bt wt) H := hP
  have hD : va_D A (xw cy h ad nS nB st bk gate nu bt wt) := hD
  refine W.eq (g2 := F0 m 8 ls [va_rf (sAt ad nS (nI i))]) rfl ?_
  refine W.eq (g2 := F0 m 8 ls [.ref (ad (4 + i))]) (by show F0 m 8 ls (va_rf (sAt ad nS (nI i)) :: _) = _; rw [sAt_nI hi hcS]) ?_
  refine lv_ifnonnull (tgt := 21) hx hb dX3_swear_8 (by decide) ?_
  refine lv_iload_n hx hb dX3_swear_21 rfl (lv_at hl 2 rfl) ?_
  refine lv_iconst (v := 0) hx hb dX3_swear_22 (by decide) ?_
  refine lv_bipush (v := 25) hx hb dX3_swear_23 (by decide) ?_
  refine xcS (As := [.int p1, .int 0, .int 25]) (rest := []) ⟨hx, hb, hml, hown, hts⟩ (c_X3_isWithin l D cy p1 0 25) (va_cwS 3 hts gX3_swear_X3_isWithin rfl rfl rfl (by decide +kernel) ⟨Nat.le_of_ble_eq_true rfl, Nat.le_of_ble_eq_true rfl⟩) hK hP hD hS hA (xE_nil) rfl hl.1 rfl (Nat.le_of_ble_eq_true rfl) dX3_swear_25 ⟨Nat.le_of_ble_eq_true rfl, Nat.le_of_ble_eq_true rfl⟩ (fun _ H locs _ hP hD hS => ?_)
  have hP : va_P D vwCl (xw cy h ad nS nB st bk gate nu bt wt) H := hP
  have hD : va_D A (xw cy h ad nS nB st bk gate nu bt wt) := hD
  refine W.eq (g2 := F0 m 28 ls [.int (wi p1 0 25)]) rfl ?_
  refine lv_if_ne (tgt := 41) hx hb dX3_swear_28 (by decide) (fun _ => ?_) (fun z => absurd z (wi_ok h1))
  refine lv_iload_n hx hb dX3_swear_41 rfl (lv_at hl 3 rfl) ?_
  refine lv_iconst (v := 5) hx hb dX3_swear_42 (by decide) ?_
  refine lv_bipush (v := 12) hx hb dX3_swear_43 (by decide) ?_
  refine xcS (As := [.int p2, .int 5, .int 12]) (rest := []) ⟨hx, hb, hml, hown, hts⟩ (c_X3_isWithin l D cy p2 5 12) (va_cwS 3 hts gX3_swear_X3_isWithin rfl rfl rfl (by decide +kernel) ⟨Nat.le_of_ble_eq_true rfl, Nat.le_of_ble_eq_true rfl⟩) hK hP hD hS hA (xE_nil) rfl hl.1 rfl (Nat.le_of_ble_eq_true rfl) dX3_swear_45 ⟨Nat.le_of_ble_eq_true rfl, Nat.le_of_ble_eq_true rfl⟩ (fun _ H locs _ hP hD hS => ?_)
  have hP : va_P D vwCl (xw cy h ad nS nB st bk gate nu bt wt) H := hP
  have hD : va_D A (xw cy h ad nS nB st bk gate nu bt wt) := hD
  refine W.eq (g2 := F0 m 48 ls [.int (wi p2 5 12)]) rfl ?_
  refine lv_if_ne (tgt := 61) hx hb dX3_swear_48 (by decide) (fun _ => ?_) (fun z => absurd z (wi_ok h2))
  refine lv_iload hx hb dX3_swear_61 (lv_at hl 4 rfl) ?_
  refine lv_iconst (v := 0) hx hb dX3_swear_63 (by decide) ?_
  refine lv_bipush (v := 90) hx hb dX3_swear_64 (by decide) ?_
  refine xcS (As := [.int p3, .int 0, .int 90]) (rest := []) ⟨hx, hb, hml, hown, hts⟩ (c_X3_isWithin l D cy p3 0 90) (va_cwS 3 hts gX3_swear_X3_isWithin rfl rfl rfl (by decide +kernel) ⟨Nat.le_of_ble_eq_true rfl, Nat.le_of_ble_eq_true rfl⟩) hK hP hD hS hA (xE_nil) rfl hl.1 rfl (Nat.le_of_ble_eq_true rfl) dX3_swear_66 ⟨Nat.le_of_ble_eq_true rfl, Nat.le_of_ble_eq_true rfl⟩ (fun _ H locs _ hP hD hS => ?_)
  have hP : va_P D vwCl (xw cy h ad nS nB st bk gate nu bt wt) H := hP
  have hD : va_D A (xw cy h ad nS nB st bk gate nu bt wt) := hD
  refine W.eq (g2 := F0 m 69 ls [.int (wi p3 0 90)]) rfl ?_
  refine lv_if_ne (tgt := 82) hx hb dX3_swear_69 (by decide) (fun _ => ?_) (fun z => absurd z (wi_ok h3))
  refine lv_aload_n hx hb dX3_swear_82 rfl (lv_at hl 0 rfl) ?_
  refine va_get (D := D) (ci := 3) (v := .ref (ad 0)) (C := RX3) (T := TX3) (N := 2) hx hb hts hinX3 hown hK.1 hP 0 rfl rfl 0 (by decide) (hts (.fieldLink RX3 10 "LoafMarks" "town" "LLoafMarks$Town;") (List.mem_of_getElem? (i := 7) rfl)) (fun _ h9 => h9) rfl dX3_swear_83 ?_
  refine lv_iload_n hx hb dX3_swear_86 rfl (lv_at hl 2 rfl) ?_
  refine xcV (As := [.int p1]) (rest := []) ⟨hx, hb, hml, hown, hts⟩ (c_X2_bakerWithMark l D cy ad nS nB st bk gate nu p1 (by omega)) (cwV 1 hts gX3_swear_X2_bakerWithMark rfl rfl rfl (by decide +kernel) ⟨Nat.le_of_ble_eq_true rfl, Nat.le_of_ble_eq_true rfl⟩) hK hP hD hS hA rfl rfl rfl (xE_town) rfl hl.1 rfl (Nat.le_of_ble_eq_true rfl) dX3_swear_87 ⟨Nat.le_of_ble_eq_true rfl, Nat.le_of_ble_eq_true rfl⟩ (fun _ H locs _ hP hD hS => ?_)
  have hP : va_P D vwCl (xw cy h ad nS nB st bk gate nu bt wt) H := hP
  have hD : va_D A (xw cy h ad nS nB st bk gate nu bt wt) := hD
  refine W.eq (g2 := F0 m 90 ls [.int (ownF bk p1 nB 0)]) rfl ?_
  refine lv_if_lt (tgt := 103) hx hb dX3_swear_90 (by decide) (fun _ => ?_) (fun h => absurd hno h)
  refine lv_aload_n hx hb dX3_swear_103 rfl (lv_at hl 0 rfl) ?_
  refine va_get (D := D) (ci := 3) (v := .ref (ad 0)) (C := RX3) (T := TX3) (N := 2) hx hb hts hinX3 hown hK.1 hP 0 rfl rfl 0 (by decide) (hts (.fieldLink RX3 10 "LoafMarks" "town" "LLoafMarks$Town;") (List.mem_of_getElem? (i := 7) rfl)) (fun _ h9 => h9) rfl dX3_swear_104 ?_
  refine lv_iload_n hx hb dX3_swear_107 rfl (lv_at hl 1 rfl) ?_
  refine lv_iload_n hx hb dX3_swear_108 rfl (lv_at hl 2 rfl) ?_
  refine lv_iload_n hx hb dX3_swear_109 rfl (lv_at hl 3 rfl) ?_
  refine lv_iload hx hb dX3_swear_110 (lv_at hl 4 rfl) ?_
  refine xcV (As := [.int (nI i), .int p1, .int p2, .int p3]) (rest := []) ⟨hx, hb, hml, hown, hts⟩ (c_X2_addBaker_full l D cy ad nS nB st bk gate nu (nI i) p1 p2 p3 hfull) (cwV 4 hts gX3_swear_X2_addBaker rfl rfl rfl (by decide +kernel) ⟨Nat.le_of_ble_eq_true rfl, Nat.le_of_ble_eq_true rfl⟩) hK hP hD hS hA rfl rfl rfl (xE_town) rfl hl.1 rfl (Nat.le_of_ble_eq_true rfl) dX3_swear_112 ⟨Nat.le_of_ble_eq_true rfl, Nat.le_of_ble_eq_true rfl⟩ (fun _ H locs _ hP hD hS => ?_)
  have hP : va_P D vwCl (xw cy h ad nS nB st bk gate nu bt wt) H := hP
  have hD : va_D A (xw cy h ad nS nB st bk gate nu bt wt) := hD
  refine W.eq (g2 := F0 m 115 ls [.int (-1)]) rfl ?_
  refine lv_istore (lv' := [(5, .int (-1)), (0, .ref h), (1, .int (nI i)), (2, .int p1), (3, .int p2), (4, .int p3)]) hx hb dX3_swear_115 hl (by decide) rfl (fun ls hl => ?_)
  refine lv_iload hx hb dX3_swear_117 (lv_at hl 0 rfl) ?_
  refine lv_if_ge (tgt := 132) hx hb dX3_swear_119 (by decide) (fun h => absurd h (by decide)) (fun _ => ?_)
  exact xthrow (cls := E_S) (text := "there are 6 bakers") hx hb hst hown (by decide +kernel) (hts (.classLink RX3 52 "java/lang/IllegalStateException") (List.mem_of_getElem? (i := 5) rfl)) (hts (.initialized "java/lang/IllegalStateException") (List.mem_of_getElem? (i := 6) rfl)) (List.mem_of_getElem? (i := 11) rfl) hV hZ (fun w h => hts w (List.mem_cons_of_mem _ (List.mem_append_right _ h))) xcovS xotS hS hP (hl.1.trans hml.symm) dX3_swear_122 dX3_swear_125 dX3_swear_126 dX3_swear_128 dX3_swear_131 htb hlocks (Nat.le_of_ble_eq_true rfl) (Nat.le_of_ble_eq_true rfl) (Nat.le_of_ble_eq_true rfl) (Nat.le_of_ble_eq_true rfl) (Nat.le_of_ble_eq_true rfl) (Nat.le_of_ble_eq_true rfl)

set_option maxHeartbeats 4000000 in
set_option maxRecDepth 100000 in
/-- deal -/
theorem c_X3_deal (l : Launch) (D : va_G) (cy : Nat → ClassId) (h : Nat) (ad : Nat → Nat) (nS nB : Nat) (st bk : Nat → Iu) (gate nu : Iu) (bt : Nat) (wt : va_W) (j : Nat) (hj : j < nB) (p1 : Int32) (h2 : (0 : Int32) ≤ p1 ∧ p1 ≤ 90) (hcS : nS ≤ 4) (hcB : nB ≤ 6) : xM l D cy yX3_deal wsX3_deal ({ frames := 6, cells := 1, slots := 6, locals := 120 } : Room) [.ref h, .int (nI j), .int p1] (xw cy h ad nS nB st bk gate nu bt wt) (fun _ : Unit => some (.int (bk j 2))) (fun _ => True) (fun _ => xw cy h ad nS nB st (va_up bk j (upd (bk j) 2 p1)) gate nu bt wt) := by
  refine xM.of cX3_deal 5 (some .int) RX3 (by decide +kernel) rfl rfl (Nat.le_of_ble_eq_true rfl) ?_
  intro p e s m below meth c A ls hx hb hr hts hown hlocks hml hin hK hA hP hD hS hl
  have hl : lv_has ls 5 [(0, .ref h), (1, .int (nI j)), (2, .int p1)] := hl
  have hinX0 : ∀ w ∈ wsX00, w ∈ wsX3_deal := fun _ h => List.mem_cons_of_mem _ (List.mem_append_left _ (List.mem_append_left _ (List.mem_append_left _ (List.mem_append_right _ h))))
  have hinX3 : ∀ w ∈ wsX30, w ∈ wsX3_deal := fun _ h => List.mem_cons_of_mem _ (List.mem_append_left _ (List.mem_append_left _ (List.mem_append_left _ (List.mem_append_left _ (List.mem_append_right _ h)))))
  refine lv_aload_n hx hb dX3_deal_0 rfl (lv_at hl 0 rfl) ?_
  refine va_get (D := D) (ci := 3) (v := .ref (ad 0)) (C := RX3) (T := TX3) (N := 2) hx hb hts hinX3 hown hK.1 hP 0 rfl rfl 0 (by decide) (hts (.fieldLink RX3 10 "LoafMarks" "town" "LLoafMarks$Town;") (List.mem_of_getElem? (i := 5) rfl)) (fun _ h9 => h9) rfl dX3_deal_1 ?_
  refine lv_iload_n hx hb dX3_deal_4 rfl (lv_at hl 1 rfl) ?_
  refine xcV (As := [.int (nI j)]) (rest := []) ⟨hx, hb, hml, hown, hts⟩ (c_X2_bakerAt l D cy ad nS nB st bk gate nu (nI j) (by omega)) (cwV 1 hts gX3_deal_X2_bakerAt rfl rfl rfl (by decide +kernel) ⟨Nat.le_of_ble_eq_true rfl, Nat.le_of_ble_eq_true rfl⟩) hK hP hD hS hA rfl rfl rfl (xE_town) rfl hl.1 rfl (Nat.le_of_ble_eq_true rfl) dX3_deal_5 ⟨Nat.le_of_ble_eq_true rfl, Nat.le_of_ble_eq_true rfl⟩ (fun _ H locs _ hP hD hS => ?_)
  have hP : va_P D vwCl (xw cy h ad nS nB st bk gate nu bt wt) H := hP
  have hD : va_D A (xw cy h ad nS nB st bk gate nu bt wt) := hD
  refine W.eq (g2 := F0 m 8 ls [va_rf (bAt ad nB (nI j))]) rfl ?_
  refine W.eq (g2 := F0 m 8 ls [.ref (ad (8 + j))]) (by show F0 m 8 ls (va_rf (bAt ad nB (nI j)) :: _) = _; rw [bAt_nI hj hcB]) ?_
  refine lv_astore_n (lv' := [(3, .ref (ad (8 + j))), (0, .ref h), (1, .int (nI j)), (2, .int p1)]) hx hb dX3_deal_8 rfl hl (by decide) rfl (fun ls hl => ?_)
  refine lv_aload_n hx hb dX3_deal_9 rfl (lv_at hl 0 rfl) ?_
  refine lv_ifnonnull (tgt := 23) hx hb dX3_deal_10 (by decide) ?_
  refine lv_iload_n hx hb dX3_deal_23 rfl (lv_at hl 3 rfl) ?_
  refine lv_iconst (v := 0) hx hb dX3_deal_24 (by decide) ?_
  refine lv_bipush (v := 90) hx hb dX3_deal_25 (by decide) ?_
  refine xcS (As := [.int p1, .int 0, .int 90]) (rest := []) ⟨hx, hb, hml, hown, hts⟩ (c_X3_isWithin l D cy p1 0 90) (va_cwS 3 hts gX3_deal_X3_isWithin rfl rfl rfl (by decide +kernel) ⟨Nat.le_of_ble_eq_true rfl, Nat.le_of_ble_eq_true rfl⟩) hK hP hD hS hA (xE_nil) rfl hl.1 rfl (Nat.le_of_ble_eq_true rfl) dX3_deal_27 ⟨Nat.le_of_ble_eq_true rfl, Nat.le_of_ble_eq_true rfl⟩ (fun _ H locs _ hP hD hS => ?_)
  have hP : va_P D vwCl (xw cy h ad nS nB st bk gate nu bt wt) H := hP
  have hD : va_D A (xw cy h ad nS nB st bk gate nu bt wt) := hD
  refine W.eq (g2 := F0 m 30 ls [.int (wi p1 0 90)]) rfl ?_
  refine lv_if_ne (tgt := 43) hx hb dX3_deal_30 (by decide) (fun _ => ?_) (fun z => absurd z (wi_ok h2))
  refine lv_aload_n hx hb dX3_deal_43 rfl (lv_at hl 0 rfl) ?_
  refine va_get (D := D) (ci := 0) (v := .int (bk j 2)) (C := RX0) (T := TX0) (N := 8) hx hb hts hinX0 hown hK.1 hP (4 + nS + j + 1) (xw_at (tw_bk hj)) rfl 2 (by decide) (hts (.fieldLink RX3 93 "LoafMarks$Baker" "ration" "I") (List.mem_of_getElem? (i := 6) rfl)) (fun _ h9 => h9) rfl dX3_deal_44 ?_
  refine lv_istore (lv' := [(4, .int (bk j 2)), (3, .ref (ad (8 + j))), (0, .ref h), (1, .int (nI j)), (2, .int p1)]) hx hb dX3_deal_47 hl (by decide) rfl (fun ls hl => ?_)
  refine lv_aload_n hx hb dX3_deal_49 rfl (lv_at hl 1 rfl) ?_
  refine lv_iload_n hx hb dX3_deal_50 rfl (lv_at hl 4 rfl) ?_
  refine va_put (D := D) (ci := 0) (v := .int p1) (ty := .int) (C := RX0) (T := TX0) (N := 8) hx hb hts hinX0 tyX0 tyX0_ok nmX0 hown hK.1 hP hD hS (4 + nS + j + 1) (xw_at (tw_bk hj)) rfl 2 (by decide) (hts (.fieldLink RX3 93 "LoafMarks$Baker" "ration" "I") (List.mem_of_getElem? (i := 6) rfl)) (fun _ h9 => h9) rfl (by decide +kernel) rfl rfl (Nat.le_of_ble_eq_true rfl) dX3_deal_51 (fun H locs hP hD hS => ?_)
  have hP : va_P D vwCl (xw cy h ad nS nB st (va_up bk j (upd (bk j) 2 p1)) gate nu bt wt) H := (xw_set_bk hj) ▸ hP
  have hD : va_D A (xw cy h ad nS nB st (va_up bk j (upd (bk j) 2 p1)) gate nu bt wt) := (xw_set_bk hj) ▸ hD
  refine lv_iload hx hb dX3_deal_54 (lv_at hl 0 rfl) ?_
  exact xri () hx hb hr hlocks hS (Nat.le_of_ble_eq_true rfl) (Nat.le_of_ble_eq_true rfl) dX3_deal_56 hP hD rfl trivial

set_option maxHeartbeats 4000000 in
set_option maxRecDepth 100000 in
theorem c_X3_deal_1 (l : Launch) (hst : l.stackTraces = false) (D : va_G) (cy : Nat → ClassId) (sa : Nat → Nat) (h : Nat) (ad : Nat → Nat) (nS nB : Nat) (st bk : Nat → Iu) (gate nu : Iu) (bt : Nat) (wt : va_W) (p0 p1 : Int32) (hv : ¬ vp_in p0 nB) (hcS : nS ≤ 4) (hcB : nB ≤ 6) : xT l D cy sa yX3_deal wsX3_deal ({ frames := 6, cells := 1, slots := 6, locals := 120 } : Room) [.ref h, .int p0, .int p1] (xw cy h ad nS nB st bk gate nu bt wt) E_I := by
  refine xT.of cX3_deal 5 (some .int) RX3 (by decide +kernel) rfl rfl (Nat.le_of_ble_eq_true rfl) ?_
  intro p e s m below meth c A ls hx hb hr hts hown hlocks hml hin hK hA hP hD hS hV hZ htb hl
  have hl : lv_has ls 5 [(0, .ref h), (1, .int p0), (2, .int p1)] := hl
  have hinX3 : ∀ w ∈ wsX30, w ∈ wsX3_deal := fun _ h => List.mem_cons_of_mem _ (List.mem_append_left _ (List.mem_append_left _ (List.mem_append_left _ (List.mem_append_left _ (List.mem_append_right _ h)))))
  refine lv_aload_n hx hb dX3_deal_0 rfl (lv_at hl 0 rfl) ?_
  refine va_get (D := D) (ci := 3) (v := .ref (ad 0)) (C := RX3) (T := TX3) (N := 2) hx hb hts hinX3 hown hK.1 hP 0 rfl rfl 0 (by decide) (hts (.fieldLink RX3 10 "LoafMarks" "town" "LLoafMarks$Town;") (List.mem_of_getElem? (i := 5) rfl)) (fun _ h9 => h9) rfl dX3_deal_1 ?_
  refine lv_iload_n hx hb dX3_deal_4 rfl (lv_at hl 1 rfl) ?_
  refine xcV (As := [.int p0]) (rest := []) ⟨hx, hb, hml, hown, hts⟩ (c_X2_bakerAt l D cy ad nS nB st bk gate nu p0 (by omega)) (cwV 1 hts gX3_deal_X2_bakerAt rfl rfl rfl (by decide +kernel) ⟨Nat.le_of_ble_eq_true rfl, Nat.le_of_ble_eq_true rfl⟩) hK hP hD hS hA rfl rfl rfl (xE_town) rfl hl.1 rfl (Nat.le_of_ble_eq_true rfl) dX3_deal_5 ⟨Nat.le_of_ble_eq_true rfl, Nat.le_of_ble_eq_true rfl⟩ (fun _ H locs _ hP hD hS => ?_)
  have hP : va_P D vwCl (xw cy h ad nS nB st bk gate nu bt wt) H := hP
  have hD : va_D A (xw cy h ad nS nB st bk gate nu bt wt) := hD
  refine W.eq (g2 := F0 m 8 ls [va_rf (bAt ad nB p0)]) rfl ?_
  refine W.eq (g2 := F0 m 8 ls [.null]) (by show F0 m 8 ls (va_rf (bAt ad nB p0) :: _) = _; rw [bAt_none hv]) ?_
  refine lv_astore_nN (lv' := [(3, .null), (0, .ref h), (1, .int p0), (2, .int p1)]) hx hb dX3_deal_8 rfl hl (by decide) rfl (fun ls hl => ?_)
  refine lv_aload_nN hx hb dX3_deal_9 rfl (lv_at hl 0 rfl) ?_
  refine lv_ifnonnullN hx hb dX3_deal_10 ?_
  exact xthrow (cls := E_I) (text := "there is no such baker") hx hb hst hown (by decide +kernel) (hts (.classLink RX3 34 "java/lang/IndexOutOfBoundsException") (List.mem_of_getElem? (i := 1) rfl)) (hts (.initialized "java/lang/IndexOutOfBoundsException") (List.mem_of_getElem? (i := 2) rfl)) (List.mem_of_getElem? (i := 12) rfl) hV hZ (fun w h => hts w (List.mem_cons_of_mem _ (List.mem_append_left _ (List.mem_append_right _ h)))) xcovI xotI hS hP (hl.1.trans hml.symm) dX3_deal_13 dX3_deal_16 dX3_deal_17 dX3_deal_19 dX3_deal_22 htb hlocks (Nat.le_of_ble_eq_true rfl) (Nat.le_of_ble_eq_true rfl) (Nat.le_of_ble_eq_true rfl) (Nat.le_of_ble_eq_true rfl) (Nat.le_of_ble_eq_true rfl) (Nat.le_of_ble_eq_true rfl)

set_option maxHeartbeats 4000000 in
set_option maxRecDepth 100000 in
theorem c_X3_deal_2 (l : Launch) (hst : l.stackTraces = false) (D : va_G) (cy : Nat → ClassId) (sa : Nat → Nat) (h : Nat) (ad : Nat → Nat) (nS nB : Nat) (st bk : Nat → Iu) (gate nu : Iu) (bt : Nat) (wt : va_W) (j : Nat) (hj : j < nB) (p1 : Int32) (h2 : ¬ ((0 : Int32) ≤ p1 ∧ p1 ≤ 90)) (hcS : nS ≤ 4) (hcB : nB ≤ 6) : xT l D cy sa yX3_deal wsX3_deal ({ frames := 6, cells := 1, slots := 6, locals := 120 } : Room) [.ref h, .int (nI j), .int p1] (xw cy h ad nS nB st bk gate nu bt wt) E_A := by
  refine xT.of cX3_deal 5 (some .int) RX3 (by decide +kernel) rfl rfl (Nat.le_of_ble_eq_true rfl) ?_
  intro p e s m below meth c A ls hx hb hr hts hown hlocks hml hin hK hA hP hD hS hV hZ htb hl
  have hl : lv_has ls 5 [(0, .ref h), (1, .int (nI j)), (2, .int p1)] := hl
  have hinX3 : ∀ w ∈ wsX30, w ∈ wsX3_deal := fun _ h => List.mem_cons_of_mem _ (List.mem_append_left _ (List.mem_append_left _ (List.mem_append_left _ (List.mem_append_left _ (List.mem_append_right _ h)))))
  refine lv_aload_n hx hb dX3_deal_0 rfl (lv_at hl 0 rfl) ?_
  refine va_get (D := D) (ci := 3) (v := .ref (ad 0)) (C := RX3) (T := TX3) (N := 2) hx hb hts hinX3 hown hK.1 hP 0 rfl rfl 0 (by decide) (hts (.fieldLink RX3 10 "LoafMarks" "town" "LLoafMarks$Town;") (List.mem_of_getElem? (i := 5) rfl)) (fun _ h9 => h9) rfl dX3_deal_1 ?_
  refine lv_iload_n hx hb dX3_deal_4 rfl (lv_at hl 1 rfl) ?_
  refine xcV (As := [.int (nI j)]) (rest := []) ⟨hx, hb, hml, hown, hts⟩ (c_X2_bakerAt l D cy ad nS nB st bk gate nu (nI j) (by omega)) (cwV 1 hts gX3_deal_X2_bakerAt rfl rfl rfl (by decide +kernel) ⟨Nat.le_of_ble_eq_true rfl, Nat.le_of_ble_eq_true rfl⟩) hK hP hD hS hA rfl rfl rfl (xE_town) rfl hl.1 rfl (Nat.le_of_ble_eq_true rfl) dX3_deal_5 ⟨Nat.le_of_ble_eq_true rfl, Nat.le_of_ble_eq_true rfl⟩ (fun _ H locs _ hP hD hS => ?_)
  have hP : va_P D vwCl (xw cy h ad nS nB st bk gate nu bt wt) H := hP
  have hD : va_D A (xw cy h ad nS nB st bk gate nu bt wt) := hD
  refine W.eq (g2 := F0 m 8 ls [va_rf (bAt ad nB (nI j))]) rfl ?_
  refine W.eq (g2 := F0 m 8 ls [.ref (ad (8 + j))]) (by show F0 m 8 ls (va_rf (bAt ad nB (nI j)) :: _) = _; rw [bAt_nI hj hcB]) ?_
  refine lv_astore_n (lv' := [(3, .ref (ad (8 + j))), (0, .ref h), (1, .int (nI j)), (2, .int p1)]) hx hb dX3_deal_8 rfl hl (by decide) rfl (fun ls hl => ?_)
  refine lv_aload_n hx hb dX3_deal_9 rfl (lv_at hl 0 rfl) ?_
  refine lv_ifnonnull (tgt := 23) hx hb dX3_deal_10 (by decide) ?_
  refine lv_iload_n hx hb dX3_deal_23 rfl (lv_at hl 3 rfl) ?_
  refine lv_iconst (v := 0) hx hb dX3_deal_24 (by decide) ?_
  refine lv_bipush (v := 90) hx hb dX3_deal_25 (by decide) ?_
  refine xcS (As := [.int p1, .int 0, .int 90]) (rest := []) ⟨hx, hb, hml, hown, hts⟩ (c_X3_isWithin l D cy p1 0 90) (va_cwS 3 hts gX3_deal_X3_isWithin rfl rfl rfl (by decide +kernel) ⟨Nat.le_of_ble_eq_true rfl, Nat.le_of_ble_eq_true rfl⟩) hK hP hD hS hA (xE_nil) rfl hl.1 rfl (Nat.le_of_ble_eq_true rfl) dX3_deal_27 ⟨Nat.le_of_ble_eq_true rfl, Nat.le_of_ble_eq_true rfl⟩ (fun _ H locs _ hP hD hS => ?_)
  have hP : va_P D vwCl (xw cy h ad nS nB st bk gate nu bt wt) H := hP
  have hD : va_D A (xw cy h ad nS nB st bk gate nu bt wt) := hD
  refine W.eq (g2 := F0 m 30 ls [.int (wi p1 0 90)]) rfl ?_
  refine lv_if_ne (tgt := 43) hx hb dX3_deal_30 (by decide) (fun z => absurd (wi_no h2) z) (fun _ => ?_)
  exact xthrow (cls := E_A) (text := "ration is not 0 to 90") hx hb hst hown (by decide +kernel) (hts (.classLink RX3 23 "java/lang/IllegalArgumentException") (List.mem_of_getElem? (i := 3) rfl)) (hts (.initialized "java/lang/IllegalArgumentException") (List.mem_of_getElem? (i := 4) rfl)) (List.mem_of_getElem? (i := 9) rfl) hV hZ (fun w h => hts w (List.mem_cons_of_mem _ (List.mem_append_right _ h))) xcovA xotA hS hP (hl.1.trans hml.symm) dX3_deal_33 dX3_deal_36 dX3_deal_37 dX3_deal_39 dX3_deal_42 htb hlocks (Nat.le_of_ble_eq_true rfl) (Nat.le_of_ble_eq_true rfl) (Nat.le_of_ble_eq_true rfl) (Nat.le_of_ble_eq_true rfl) (Nat.le_of_ble_eq_true rfl) (Nat.le_of_ble_eq_true rfl)

set_option maxHeartbeats 4000000 in
set_option maxRecDepth 100000 in
/-- weigh -/
theorem c_X3_weigh (l : Launch) (D : va_G) (cy : Nat → ClassId) (h : Nat) (ad : Nat → Nat) (nS nB : Nat) (st bk : Nat → Iu) (gate nu : Iu) (bt : Nat) (wt : va_W) (j : Nat) (hj : j < nB) (h2 : (0 : Int32) < bk j 5) (hcS : nS ≤ 4) (hcB : nB ≤ 6) : xM l D cy yX3_weigh wsX3_weigh ({ frames := 6, cells := 1, slots := 6, locals := 120 } : Room) [.ref h, .int (nI j)] (xw cy h ad nS nB st bk gate nu bt wt) (fun _ : Unit => some (.int (bk j 4))) (fun _ => True) (fun _ => xw cy h ad nS nB st (va_up bk j (bInspect (bk j))) gate nu bt wt) := by
  refine xM.of cX3_weigh 3 (some .int) RX3 (by decide +kernel) rfl rfl (Nat.le_of_ble_eq_true rfl) ?_
  intro p e s m below meth c A ls hx hb hr hts hown hlocks hml hin hK hA hP hD hS hl
  have hl : lv_has ls 3 [(0, .ref h), (1, .int (nI j))] := hl
  have hinX0 : ∀ w ∈ wsX00, w ∈ wsX3_weigh := fun _ h => List.mem_cons_of_mem _ (List.mem_append_left _ (List.mem_append_left _ (List.mem_append_left _ (List.mem_append_right _ h))))
  have hinX3 : ∀ w ∈ wsX30, w ∈ wsX3_weigh := fun _ h => List.mem_cons_of_mem _ (List.mem_append_left _ (List.mem_append_left _ (List.mem_append_left _ (List.mem_append_left _ (List.mem_append_right _ h)))))
  refine lv_aload_n hx hb dX3_weigh_0 rfl (lv_at hl 0 rfl) ?_
  refine va_get (D := D) (ci := 3) (v := .ref (ad 0)) (C := RX3) (T := TX3) (N := 2) hx hb hts hinX3 hown hK.1 hP 0 rfl rfl 0 (by decide) (hts (.fieldLink RX3 10 "LoafMarks" "town" "LLoafMarks$Town;") (List.mem_of_getElem? (i := 5) rfl)) (fun _ h9 => h9) rfl dX3_weigh_1 ?_
  refine lv_iload_n hx hb dX3_weigh_4 rfl (lv_at hl 1 rfl) ?_
  refine xcV (As := [.int (nI j)]) (rest := []) ⟨hx, hb, hml, hown, hts⟩ (c_X2_bakerAt l D cy ad nS nB st bk gate nu (nI j) (by omega)) (cwV 1 hts gX3_weigh_X2_bakerAt rfl rfl rfl (by decide +kernel) ⟨Nat.le_of_ble_eq_true rfl, Nat.le_of_ble_eq_true rfl⟩) hK hP hD hS hA rfl rfl rfl (xE_town) rfl hl.1 rfl (Nat.le_of_ble_eq_true rfl) dX3_weigh_5 ⟨Nat.le_of_ble_eq_true rfl, Nat.le_of_ble_eq_true rfl⟩ (fun _ H locs _ hP hD hS => ?_)
  have hP : va_P D vwCl (xw cy h ad nS nB st bk gate nu bt wt) H := hP
  have hD : va_D A (xw cy h ad nS nB st bk gate nu bt wt) := hD
  refine W.eq (g2 := F0 m 8 ls [va_rf (bAt ad nB (nI j))]) rfl ?_
  refine W.eq (g2 := F0 m 8 ls [.ref (ad (8 + j))]) (by show F0 m 8 ls (va_rf (bAt ad nB (nI j)) :: _) = _; rw [bAt_nI hj hcB]) ?_
  refine lv_astore_n (lv' := [(2, .ref (ad (8 + j))), (0, .ref h), (1, .int (nI j))]) hx hb dX3_weigh_8 rfl hl (by decide) rfl (fun ls hl => ?_)
  refine lv_aload_n hx hb dX3_weigh_9 rfl (lv_at hl 0 rfl) ?_
  refine lv_ifnonnull (tgt := 23) hx hb dX3_weigh_10 (by decide) ?_
  refine lv_aload_n hx hb dX3_weigh_23 rfl (lv_at hl 0 rfl) ?_
  refine va_get (D := D) (ci := 0) (v := .int (bk j 5)) (C := RX0) (T := TX0) (N := 8) hx hb hts hinX0 hown hK.1 hP (4 + nS + j + 1) (xw_at (tw_bk hj)) rfl 5 (by decide) (hts (.fieldLink RX3 98 "LoafMarks$Baker" "shelf" "I") (List.mem_of_getElem? (i := 6) rfl)) (fun _ h9 => h9) rfl dX3_weigh_24 ?_
  refine lv_if_gt (tgt := 40) hx hb dX3_weigh_27 (by decide) (fun _ => ?_) (fun h => absurd h2 h)
  refine lv_aload_n hx hb dX3_weigh_40 rfl (lv_at hl 0 rfl) ?_
  refine xcV (As := []) (rest := []) ⟨hx, hb, hml, hown, hts⟩ (c_X0_inspect l D cy (ad (8 + j)) (bk j) ) (cwV 0 hts gX3_weigh_X0_inspect rfl rfl rfl (by decide +kernel) ⟨Nat.le_of_ble_eq_true rfl, Nat.le_of_ble_eq_true rfl⟩) hK hP hD hS hA rfl rfl rfl (xE_xbk (bInspect (bk j)) hj) rfl hl.1 rfl (Nat.le_of_ble_eq_true rfl) dX3_weigh_41 ⟨Nat.le_of_ble_eq_true rfl, Nat.le_of_ble_eq_true rfl⟩ (fun _ H locs _ hP hD hS => ?_)
  have hP : va_P D vwCl (xw cy h ad nS nB st (va_up bk j (bInspect (bk j))) gate nu bt wt) H := hP
  have hD : va_D A (xw cy h ad nS nB st (va_up bk j (bInspect (bk j))) gate nu bt wt) := hD
  refine W.eq (g2 := F0 m 44 ls [.int ((bk j) 4)]) rfl ?_
  exact xri () hx hb hr hlocks hS (Nat.le_of_ble_eq_true rfl) (Nat.le_of_ble_eq_true rfl) dX3_weigh_44 hP hD rfl trivial

set_option maxHeartbeats 4000000 in
set_option maxRecDepth 100000 in
theorem c_X3_weigh_1 (l : Launch) (hst : l.stackTraces = false) (D : va_G) (cy : Nat → ClassId) (sa : Nat → Nat) (h : Nat) (ad : Nat → Nat) (nS nB : Nat) (st bk : Nat → Iu) (gate nu : Iu) (bt : Nat) (wt : va_W) (p0 : Int32) (hv : ¬ vp_in p0 nB) (hcS : nS ≤ 4) (hcB : nB ≤ 6) : xT l D cy sa yX3_weigh wsX3_weigh ({ frames := 6, cells := 1, slots := 6, locals := 120 } : Room) [.ref h, .int p0] (xw cy h ad nS nB st bk gate nu bt wt) E_I := by
  refine xT.of cX3_weigh 3 (some .int) RX3 (by decide +kernel) rfl rfl (Nat.le_of_ble_eq_true rfl) ?_
  intro p e s m below meth c A ls hx hb hr hts hown hlocks hml hin hK hA hP hD hS hV hZ htb hl
  have hl : lv_has ls 3 [(0, .ref h), (1, .int p0)] := hl
  have hinX3 : ∀ w ∈ wsX30, w ∈ wsX3_weigh := fun _ h => List.mem_cons_of_mem _ (List.mem_append_left _ (List.mem_append_left _ (List.mem_append_left _ (List.mem_append_left _ (List.mem_append_right _ h)))))
  refine lv_aload_n hx hb dX3_weigh_0 rfl (lv_at hl 0 rfl) ?_
  refine va_get (D := D) (ci := 3) (v := .ref (ad 0)) (C := RX3) (T := TX3) (N := 2) hx hb hts hinX3 hown hK.1 hP 0 rfl rfl 0 (by decide) (hts (.fieldLink RX3 10 "LoafMarks" "town" "LLoafMarks$Town;") (List.mem_of_getElem? (i := 5) rfl)) (fun _ h9 => h9) rfl dX3_weigh_1 ?_
  refine lv_iload_n hx hb dX3_weigh_4 rfl (lv_at hl 1 rfl) ?_
  refine xcV (As := [.int p0]) (rest := []) ⟨hx, hb, hml, hown, hts⟩ (c_X2_bakerAt l D cy ad nS nB st bk gate nu p0 (by omega)) (cwV 1 hts gX3_weigh_X2_bakerAt rfl rfl rfl (by decide +kernel) ⟨Nat.le_of_ble_eq_true rfl, Nat.le_of_ble_eq_true rfl⟩) hK hP hD hS hA rfl rfl rfl (xE_town) rfl hl.1 rfl (Nat.le_of_ble_eq_true rfl) dX3_weigh_5 ⟨Nat.le_of_ble_eq_true rfl, Nat.le_of_ble_eq_true rfl⟩ (fun _ H locs _ hP hD hS => ?_)
  have hP : va_P D vwCl (xw cy h ad nS nB st bk gate nu bt wt) H := hP
  have hD : va_D A (xw cy h ad nS nB st bk gate nu bt wt) := hD
  refine W.eq (g2 := F0 m 8 ls [va_rf (bAt ad nB p0)]) rfl ?_
  refine W.eq (g2 := F0 m 8 ls [.null]) (by show F0 m 8 ls (va_rf (bAt ad nB p0) :: _) = _; rw [bAt_none hv]) ?_
  refine lv_astore_nN (lv' := [(2, .null), (0, .ref h), (1, .int p0)]) hx hb dX3_weigh_8 rfl hl (by decide) rfl (fun ls hl => ?_)
  refine lv_aload_nN hx hb dX3_weigh_9 rfl (lv_at hl 0 rfl) ?_
  refine lv_ifnonnullN hx hb dX3_weigh_10 ?_
  exact xthrow (cls := E_I) (text := "there is no such baker") hx hb hst hown (by decide +kernel) (hts (.classLink RX3 34 "java/lang/IndexOutOfBoundsException") (List.mem_of_getElem? (i := 1) rfl)) (hts (.initialized "java/lang/IndexOutOfBoundsException") (List.mem_of_getElem? (i := 2) rfl)) (List.mem_of_getElem? (i := 12) rfl) hV hZ (fun w h => hts w (List.mem_cons_of_mem _ (List.mem_append_left _ (List.mem_append_right _ h)))) xcovI xotI hS hP (hl.1.trans hml.symm) dX3_weigh_13 dX3_weigh_16 dX3_weigh_17 dX3_weigh_19 dX3_weigh_22 htb hlocks (Nat.le_of_ble_eq_true rfl) (Nat.le_of_ble_eq_true rfl) (Nat.le_of_ble_eq_true rfl) (Nat.le_of_ble_eq_true rfl) (Nat.le_of_ble_eq_true rfl) (Nat.le_of_ble_eq_true rfl)

set_option maxHeartbeats 4000000 in
set_option maxRecDepth 100000 in
theorem c_X3_weigh_2 (l : Launch) (hst : l.stackTraces = false) (D : va_G) (cy : Nat → ClassId) (sa : Nat → Nat) (h : Nat) (ad : Nat → Nat) (nS nB : Nat) (st bk : Nat → Iu) (gate nu : Iu) (bt : Nat) (wt : va_W) (j : Nat) (hj : j < nB) (h2 : ¬ (0 : Int32) < bk j 5) (hcS : nS ≤ 4) (hcB : nB ≤ 6) : xT l D cy sa yX3_weigh wsX3_weigh ({ frames := 6, cells := 1, slots := 6, locals := 120 } : Room) [.ref h, .int (nI j)] (xw cy h ad nS nB st bk gate nu bt wt) E_S := by
  refine xT.of cX3_weigh 3 (some .int) RX3 (by decide +kernel) rfl rfl (Nat.le_of_ble_eq_true rfl) ?_
  intro p e s m below meth c A ls hx hb hr hts hown hlocks hml hin hK hA hP hD hS hV hZ htb hl
  have hl : lv_has ls 3 [(0, .ref h), (1, .int (nI j))] := hl
  have hinX0 : ∀ w ∈ wsX00, w ∈ wsX3_weigh := fun _ h => List.mem_cons_of_mem _ (List.mem_append_left _ (List.mem_append_left _ (List.mem_append_left _ (List.mem_append_right _ h))))
  have hinX3 : ∀ w ∈ wsX30, w ∈ wsX3_weigh := fun _ h => List.mem_cons_of_mem _ (List.mem_append_left _ (List.mem_append_left _ (List.mem_append_left _ (List.mem_append_left _ (List.mem_append_right _ h)))))
  refine lv_aload_n hx hb dX3_weigh_0 rfl (lv_at hl 0 rfl) ?_
  refine va_get (D := D) (ci := 3) (v := .ref (ad 0)) (C := RX3) (T := TX3) (N := 2) hx hb hts hinX3 hown hK.1 hP 0 rfl rfl 0 (by decide) (hts (.fieldLink RX3 10 "LoafMarks" "town" "LLoafMarks$Town;") (List.mem_of_getElem? (i := 5) rfl)) (fun _ h9 => h9) rfl dX3_weigh_1 ?_
  refine lv_iload_n hx hb dX3_weigh_4 rfl (lv_at hl 1 rfl) ?_
  refine xcV (As := [.int (nI j)]) (rest := []) ⟨hx, hb, hml, hown, hts⟩ (c_X2_bakerAt l D cy ad nS nB st bk gate nu (nI j) (by omega)) (cwV 1 hts gX3_weigh_X2_bakerAt rfl rfl rfl (by decide +kernel) ⟨Nat.le_of_ble_eq_true rfl, Nat.le_of_ble_eq_true rfl⟩) hK hP hD hS hA rfl rfl rfl (xE_town) rfl hl.1 rfl (Nat.le_of_ble_eq_true rfl) dX3_weigh_5 ⟨Nat.le_of_ble_eq_true rfl, Nat.le_of_ble_eq_true rfl⟩ (fun _ H locs _ hP hD hS => ?_)
  have hP : va_P D vwCl (xw cy h ad nS nB st bk gate nu bt wt) H := hP
  have hD : va_D A (xw cy h ad nS nB st bk gate nu bt wt) := hD
  refine W.eq (g2 := F0 m 8 ls [va_rf (bAt ad nB (nI j))]) rfl ?_
  refine W.eq (g2 := F0 m 8 ls [.ref (ad (8 + j))]) (by show F0 m 8 ls (va_rf (bAt ad nB (nI j)) :: _) = _; rw [bAt_nI hj hcB]) ?_
  refine lv_astore_n (lv' := [(2, .ref (ad (8 + j))), (0, .ref h), (1, .int (nI j))]) hx hb dX3_weigh_8 rfl hl (by decide) rfl (fun ls hl => ?_)
  refine lv_aload_n hx hb dX3_weigh_9 rfl (lv_at hl 0 rfl) ?_
  refine lv_ifnonnull (tgt := 23) hx hb dX3_weigh_10 (by decide) ?_
  refine lv_aload_n hx hb dX3_weigh_23 rfl (lv_at hl 0 rfl) ?_
  refine va_get (D := D) (ci := 0) (v := .int (bk j 5)) (C := RX0) (T := TX0) (N := 8) hx hb hts hinX0 hown hK.1 hP (4 + nS + j + 1) (xw_at (tw_bk hj)) rfl 5 (by decide) (hts (.fieldLink RX3 98 "LoafMarks$Baker" "shelf" "I") (List.mem_of_getElem? (i := 6) rfl)) (fun _ h9 => h9) rfl dX3_weigh_24 ?_
  refine lv_if_gt (tgt := 40) hx hb dX3_weigh_27 (by decide) (fun h => absurd h h2) (fun _ => ?_)
  exact xthrow (cls := E_S) (text := "there is no loaf on the shelf") hx hb hst hown (by decide +kernel) (hts (.classLink RX3 52 "java/lang/IllegalStateException") (List.mem_of_getElem? (i := 3) rfl)) (hts (.initialized "java/lang/IllegalStateException") (List.mem_of_getElem? (i := 4) rfl)) (List.mem_of_getElem? (i := 13) rfl) hV hZ (fun w h => hts w (List.mem_cons_of_mem _ (List.mem_append_right _ h))) xcovS xotS hS hP (hl.1.trans hml.symm) dX3_weigh_30 dX3_weigh_33 dX3_weigh_34 dX3_weigh_36 dX3_weigh_39 htb hlocks (Nat.le_of_ble_eq_true rfl) (Nat.le_of_ble_eq_true rfl) (Nat.le_of_ble_eq_true rfl) (Nat.le_of_ble_eq_true rfl) (Nat.le_of_ble_eq_true rfl) (Nat.le_of_ble_eq_true rfl)

set_option maxHeartbeats 4000000 in
set_option maxRecDepth 100000 in
/-- pardon -/
theorem c_X3_pardon (l : Launch) (D : va_G) (cy : Nat → ClassId) (h : Nat) (ad : Nat → Nat) (nS nB : Nat) (st bk : Nat → Iu) (gate nu : Iu) (bt : Nat) (wt : va_W) (j : Nat) (hj : j < nB) (hg : bk j 7 = 0 ∨ bk j 7 = 1) (hcS : nS ≤ 4) (hcB : nB ≤ 6) : xM l D cy yX3_pardon wsX3_pardon ({ frames := 6, cells := 1, slots := 6, locals := 120 } : Room) [.ref h, .int (nI j)] (xw cy h ad nS nB st bk gate nu bt wt) (fun _ : Unit => some (.int (bk j 7))) (fun _ => True) (fun _ => xw cy h ad nS nB st (va_up bk j (bForgive (bk j))) gate nu bt wt) := by
  refine xM.of cX3_pardon 3 (some .boolean) RX3 (by decide +kernel) rfl rfl (Nat.le_of_ble_eq_true rfl) ?_
  intro p e s m below meth c A ls hx hb hr hts hown hlocks hml hin hK hA hP hD hS hl
  have hl : lv_has ls 3 [(0, .ref h), (1, .int (nI j))] := hl
  have hinX3 : ∀ w ∈ wsX30, w ∈ wsX3_pardon := fun _ h => List.mem_cons_of_mem _ (List.mem_append_left _ (List.mem_append_left _ (List.mem_append_left _ (List.mem_append_right _ h))))
  refine lv_aload_n hx hb dX3_pardon_0 rfl (lv_at hl 0 rfl) ?_
  refine va_get (D := D) (ci := 3) (v := .ref (ad 0)) (C := RX3) (T := TX3) (N := 2) hx hb hts hinX3 hown hK.1 hP 0 rfl rfl 0 (by decide) (hts (.fieldLink RX3 10 "LoafMarks" "town" "LLoafMarks$Town;") (List.mem_of_getElem? (i := 3) rfl)) (fun _ h9 => h9) rfl dX3_pardon_1 ?_
  refine lv_iload_n hx hb dX3_pardon_4 rfl (lv_at hl 1 rfl) ?_
  refine xcV (As := [.int (nI j)]) (rest := []) ⟨hx, hb, hml, hown, hts⟩ (c_X2_bakerAt l D cy ad nS nB st bk gate nu (nI j) (by omega)) (cwV 1 hts gX3_pardon_X2_bakerAt rfl rfl rfl (by decide +kernel) ⟨Nat.le_of_ble_eq_true rfl, Nat.le_of_ble_eq_true rfl⟩) hK hP hD hS hA rfl rfl rfl (xE_town) rfl hl.1 rfl (Nat.le_of_ble_eq_true rfl) dX3_pardon_5 ⟨Nat.le_of_ble_eq_true rfl, Nat.le_of_ble_eq_true rfl⟩ (fun _ H locs _ hP hD hS => ?_)
  have hP : va_P D vwCl (xw cy h ad nS nB st bk gate nu bt wt) H := hP
  have hD : va_D A (xw cy h ad nS nB st bk gate nu bt wt) := hD
  refine W.eq (g2 := F0 m 8 ls [va_rf (bAt ad nB (nI j))]) rfl ?_
  refine W.eq (g2 := F0 m 8 ls [.ref (ad (8 + j))]) (by show F0 m 8 ls (va_rf (bAt ad nB (nI j)) :: _) = _; rw [bAt_nI hj hcB]) ?_
  refine lv_astore_n (lv' := [(2, .ref (ad (8 + j))), (0, .ref h), (1, .int (nI j))]) hx hb dX3_pardon_8 rfl hl (by decide) rfl (fun ls hl => ?_)
  refine lv_aload_n hx hb dX3_pardon_9 rfl (lv_at hl 0 rfl) ?_
  refine lv_ifnonnull (tgt := 23) hx hb dX3_pardon_10 (by decide) ?_
  refine lv_aload_n hx hb dX3_pardon_23 rfl (lv_at hl 0 rfl) ?_
  refine xcV (As := []) (rest := []) ⟨hx, hb, hml, hown, hts⟩ (c_X0_forgive l D cy (ad (8 + j)) (bk j) hg) (cwV 0 hts gX3_pardon_X0_forgive rfl rfl rfl (by decide +kernel) ⟨Nat.le_of_ble_eq_true rfl, Nat.le_of_ble_eq_true rfl⟩) hK hP hD hS hA rfl rfl rfl (xE_xbk (bForgive (bk j)) hj) rfl hl.1 rfl (Nat.le_of_ble_eq_true rfl) dX3_pardon_24 ⟨Nat.le_of_ble_eq_true rfl, Nat.le_of_ble_eq_true rfl⟩ (fun _ H locs _ hP hD hS => ?_)
  have hP : va_P D vwCl (xw cy h ad nS nB st (va_up bk j (bForgive (bk j))) gate nu bt wt) H := hP
  have hD : va_D A (xw cy h ad nS nB st (va_up bk j (bForgive (bk j))) gate nu bt wt) := hD
  refine W.eq (g2 := F0 m 27 ls [.int (bk j 7)]) rfl ?_
  exact xrz () hx hb hr hlocks hS (Nat.le_of_ble_eq_true rfl) (Nat.le_of_ble_eq_true rfl) dX3_pardon_27 (n_bool hg).1 hP hD rfl trivial

set_option maxHeartbeats 4000000 in
set_option maxRecDepth 100000 in
theorem c_X3_pardon_1 (l : Launch) (hst : l.stackTraces = false) (D : va_G) (cy : Nat → ClassId) (sa : Nat → Nat) (h : Nat) (ad : Nat → Nat) (nS nB : Nat) (st bk : Nat → Iu) (gate nu : Iu) (bt : Nat) (wt : va_W) (p0 : Int32) (hv : ¬ vp_in p0 nB) (hcS : nS ≤ 4) (hcB : nB ≤ 6) : xT l D cy sa yX3_pardon wsX3_pardon ({ frames := 6, cells := 1, slots := 6, locals := 120 } : Room) [.ref h, .int p0] (xw cy h ad nS nB st bk gate nu bt wt) E_I := by
  refine xT.of cX3_pardon 3 (some .boolean) RX3 (by decide +kernel) rfl rfl (Nat.le_of_ble_eq_true rfl) ?_
  intro p e s m below meth c A ls hx hb hr hts hown hlocks hml hin hK hA hP hD hS hV hZ htb hl
  have hl : lv_has ls 3 [(0, .ref h), (1, .int p0)] := hl
  have hinX3 : ∀ w ∈ wsX30, w ∈ wsX3_pardon := fun _ h => List.mem_cons_of_mem _ (List.mem_append_left _ (List.mem_append_left _ (List.mem_append_left _ (List.mem_append_right _ h))))
  refine lv_aload_n hx hb dX3_pardon_0 rfl (lv_at hl 0 rfl) ?_
  refine va_get (D := D) (ci := 3) (v := .ref (ad 0)) (C := RX3) (T := TX3) (N := 2) hx hb hts hinX3 hown hK.1 hP 0 rfl rfl 0 (by decide) (hts (.fieldLink RX3 10 "LoafMarks" "town" "LLoafMarks$Town;") (List.mem_of_getElem? (i := 3) rfl)) (fun _ h9 => h9) rfl dX3_pardon_1 ?_
  refine lv_iload_n hx hb dX3_pardon_4 rfl (lv_at hl 1 rfl) ?_
  refine xcV (As := [.int p0]) (rest := []) ⟨hx, hb, hml, hown, hts⟩ (c_X2_bakerAt l D cy ad nS nB st bk gate nu p0 (by omega)) (cwV 1 hts gX3_pardon_X2_bakerAt rfl rfl rfl (by decide +kernel) ⟨Nat.le_of_ble_eq_true rfl, Nat.le_of_ble_eq_true rfl⟩) hK hP hD hS hA rfl rfl rfl (xE_town) rfl hl.1 rfl (Nat.le_of_ble_eq_true rfl) dX3_pardon_5 ⟨Nat.le_of_ble_eq_true rfl, Nat.le_of_ble_eq_true rfl⟩ (fun _ H locs _ hP hD hS => ?_)
  have hP : va_P D vwCl (xw cy h ad nS nB st bk gate nu bt wt) H := hP
  have hD : va_D A (xw cy h ad nS nB st bk gate nu bt wt) := hD
  refine W.eq (g2 := F0 m 8 ls [va_rf (bAt ad nB p0)]) rfl ?_
  refine W.eq (g2 := F0 m 8 ls [.null]) (by show F0 m 8 ls (va_rf (bAt ad nB p0) :: _) = _; rw [bAt_none hv]) ?_
  refine lv_astore_nN (lv' := [(2, .null), (0, .ref h), (1, .int p0)]) hx hb dX3_pardon_8 rfl hl (by decide) rfl (fun ls hl => ?_)
  refine lv_aload_nN hx hb dX3_pardon_9 rfl (lv_at hl 0 rfl) ?_
  refine lv_ifnonnullN hx hb dX3_pardon_10 ?_
  exact xthrow (cls := E_I) (text := "there is no such baker") hx hb hst hown (by decide +kernel) (hts (.classLink RX3 34 "java/lang/IndexOutOfBoundsException") (List.mem_of_getElem? (i := 1) rfl)) (hts (.initialized "java/lang/IndexOutOfBoundsException") (List.mem_of_getElem? (i := 2) rfl)) (List.mem_of_getElem? (i := 12) rfl) hV hZ (fun w h => hts w (List.mem_cons_of_mem _ (List.mem_append_right _ h))) xcovI xotI hS hP (hl.1.trans hml.symm) dX3_pardon_13 dX3_pardon_16 dX3_pardon_17 dX3_pardon_19 dX3_pardon_22 htb hlocks (Nat.le_of_ble_eq_true rfl) (Nat.le_of_ble_eq_true rfl) (Nat.le_of_ble_eq_true rfl) (Nat.le_of_ble_eq_true rfl) (Nat.le_of_ble_eq_true rfl) (Nat.le_of_ble_eq_true rfl)

set_option maxHeartbeats 4000000 in
set_option maxRecDepth 100000 in
/-- store -/
theorem c_X3_store (l : Launch) (D : va_G) (cy : Nat → ClassId) (h : Nat) (ad : Nat → Nat) (nS nB : Nat) (st bk : Nat → Iu) (gate nu : Iu) (bt : Nat) (wt : va_W) (i : Nat) (hi : i < nS) (k : Nat) (hk : k < 4) (hcS : nS ≤ 4) (hcB : nB ≤ 6) : xM l D cy yX3_store wsX3_store ({ frames := 6, cells := 1, slots := 6, locals := 120 } : Room) [.ref h, .int (nI i), .int (nI k)] (xw cy h ad nS nB st bk gate nu bt wt) (fun _ : Unit => some (.int (stFact st bk nB i k))) (fun _ => True) (fun _ => xw cy h ad nS nB st bk gate nu bt wt) := by
  refine xM.of cX3_store 3 (some .int) RX3 (by decide +kernel) rfl rfl (Nat.le_of_ble_eq_true rfl) ?_
  intro p e s m below meth c A ls hx hb hr hts hown hlocks hml hin hK hA hP hD hS hl
  have hl : lv_has ls 3 [(0, .ref h), (1, .int (nI i)), (2, .int (nI k))] := hl
  have hinX3 : ∀ w ∈ wsX30, w ∈ wsX3_store := fun _ h => List.mem_cons_of_mem _ (List.mem_append_left _ (List.mem_append_left _ (List.mem_append_left _ (List.mem_append_left _ (List.mem_append_right _ h)))))
  refine lv_aload_n hx hb dX3_store_0 rfl (lv_at hl 0 rfl) ?_
  refine va_get (D := D) (ci := 3) (v := .ref (ad 0)) (C := RX3) (T := TX3) (N := 2) hx hb hts hinX3 hown hK.1 hP 0 rfl rfl 0 (by decide) (hts (.fieldLink RX3 10 "LoafMarks" "town" "LLoafMarks$Town;") (List.mem_of_getElem? (i := 3) rfl)) (fun _ h9 => h9) rfl dX3_store_1 ?_
  refine lv_iload_n hx hb dX3_store_4 rfl (lv_at hl 1 rfl) ?_
  refine xcV (As := [.int (nI i)]) (rest := []) ⟨hx, hb, hml, hown, hts⟩ (c_X2_storeAt l D cy ad nS nB st bk gate nu (nI i) (by omega)) (cwV 1 hts gX3_store_X2_storeAt rfl rfl rfl (by decide +kernel) ⟨Nat.le_of_ble_eq_true rfl, Nat.le_of_ble_eq_true rfl⟩) hK hP hD hS hA rfl rfl rfl (xE_town) rfl hl.1 rfl (Nat.le_of_ble_eq_true rfl) dX3_store_5 ⟨Nat.le_of_ble_eq_true rfl, Nat.le_of_ble_eq_true rfl⟩ (fun _ H locs _ hP hD hS => ?_)
  have hP : va_P D vwCl (xw cy h ad nS nB st bk gate nu bt wt) H := hP
  have hD : va_D A (xw cy h ad nS nB st bk gate nu bt wt) := hD
  refine W.eq (g2 := F0 m 8 ls [va_rf (sAt ad nS (nI i))]) rfl ?_
  refine W.eq (g2 := F0 m 8 ls [.ref (ad (4 + i))]) (by show F0 m 8 ls (va_rf (sAt ad nS (nI i)) :: _) = _; rw [sAt_nI hi hcS]) ?_
  refine lv_ifnonnull (tgt := 21) hx hb dX3_store_8 (by decide) ?_
  refine lv_iload_n hx hb dX3_store_21 rfl (lv_at hl 2 rfl) ?_
  refine lv_iconst (v := 0) hx hb dX3_store_22 (by decide) ?_
  refine lv_iconst (v := 3) hx hb dX3_store_23 (by decide) ?_
  refine xcS (As := [.int (nI k), .int 0, .int 3]) (rest := []) ⟨hx, hb, hml, hown, hts⟩ (c_X3_isWithin l D cy (nI k) 0 3) (va_cwS 3 hts gX3_store_X3_isWithin rfl rfl rfl (by decide +kernel) ⟨Nat.le_of_ble_eq_true rfl, Nat.le_of_ble_eq_true rfl⟩) hK hP hD hS hA (xE_nil) rfl hl.1 rfl (Nat.le_of_ble_eq_true rfl) dX3_store_24 ⟨Nat.le_of_ble_eq_true rfl, Nat.le_of_ble_eq_true rfl⟩ (fun _ H locs _ hP hD hS => ?_)
  have hP : va_P D vwCl (xw cy h ad nS nB st bk gate nu bt wt) H := hP
  have hD : va_D A (xw cy h ad nS nB st bk gate nu bt wt) := hD
  refine W.eq (g2 := F0 m 27 ls [.int (wi (nI k) 0 3)]) rfl ?_
  refine lv_if_ne (tgt := 40) hx hb dX3_store_27 (by decide) (fun _ => ?_) (fun z => absurd z (wi_ok ⟨nI_pos' (n := k) (by omega), nI_le (a := k) (b := 3) (by omega) (by decide)⟩))
  refine lv_aload_n hx hb dX3_store_40 rfl (lv_at hl 0 rfl) ?_
  refine va_get (D := D) (ci := 3) (v := .ref (ad 0)) (C := RX3) (T := TX3) (N := 2) hx hb hts hinX3 hown hK.1 hP 0 rfl rfl 0 (by decide) (hts (.fieldLink RX3 10 "LoafMarks" "town" "LLoafMarks$Town;") (List.mem_of_getElem? (i := 3) rfl)) (fun _ h9 => h9) rfl dX3_store_41 ?_
  refine lv_iload_n hx hb dX3_store_44 rfl (lv_at hl 1 rfl) ?_
  refine lv_iload_n hx hb dX3_store_45 rfl (lv_at hl 2 rfl) ?_
  refine xcV (As := [.int (nI i), .int (nI k)]) (rest := []) ⟨hx, hb, hml, hown, hts⟩ (c_X2_storeFact l D cy ad nS nB st bk gate nu i k (by omega) (by omega) (by omega) (by omega)) (cwV 2 hts gX3_store_X2_storeFact rfl rfl rfl (by decide +kernel) ⟨Nat.le_of_ble_eq_true rfl, Nat.le_of_ble_eq_true rfl⟩) hK hP hD hS hA rfl rfl rfl (xE_town) rfl hl.1 rfl (Nat.le_of_ble_eq_true rfl) dX3_store_46 ⟨Nat.le_of_ble_eq_true rfl, Nat.le_of_ble_eq_true rfl⟩ (fun _ H locs _ hP hD hS => ?_)
  have hP : va_P D vwCl (xw cy h ad nS nB st bk gate nu bt wt) H := hP
  have hD : va_D A (xw cy h ad nS nB st bk gate nu bt wt) := hD
  refine W.eq (g2 := F0 m 49 ls [.int (stFact st bk nB i k)]) rfl ?_
  exact xri () hx hb hr hlocks hS (Nat.le_of_ble_eq_true rfl) (Nat.le_of_ble_eq_true rfl) dX3_store_49 hP hD rfl trivial

set_option maxHeartbeats 4000000 in
set_option maxRecDepth 100000 in
theorem c_X3_store_1a (l : Launch) (hst : l.stackTraces = false) (D : va_G) (cy : Nat → ClassId) (sa : Nat → Nat) (h : Nat) (ad : Nat → Nat) (nS nB : Nat) (st bk : Nat → Iu) (gate nu : Iu) (bt : Nat) (wt : va_W) (p0 p1 : Int32) (hv : ¬ vp_in p0 nS) (hcS : nS ≤ 4) (hcB : nB ≤ 6) : xT l D cy sa yX3_store wsX3_store ({ frames := 6, cells := 1, slots := 6, locals := 120 } : Room) [.ref h, .int p0, .int p1] (xw cy h ad nS nB st bk gate nu bt wt) E_I := by
  refine xT.of cX3_store 3 (some .int) RX3 (by decide +kernel) rfl rfl (Nat.le_of_ble_eq_true rfl) ?_
  intro p e s m below meth c A ls hx hb hr hts hown hlocks hml hin hK hA hP hD hS hV hZ htb hl
  have hl : lv_has ls 3 [(0, .ref h), (1, .int p0), (2, .int p1)] := hl
  have hinX3 : ∀ w ∈ wsX30, w ∈ wsX3_store := fun _ h => List.mem_cons_of_mem _ (List.mem_append_left _ (List.mem_append_left _ (List.mem_append_left _ (List.mem_append_left _ (List.mem_append_right _ h)))))
  refine lv_aload_n hx hb dX3_store_0 rfl (lv_at hl 0 rfl) ?_
  refine va_get (D := D) (ci := 3) (v := .ref (ad 0)) (C := RX3) (T := TX3) (N := 2) hx hb hts hinX3 hown hK.1 hP 0 rfl rfl 0 (by decide) (hts (.fieldLink RX3 10 "LoafMarks" "town" "LLoafMarks$Town;") (List.mem_of_getElem? (i := 3) rfl)) (fun _ h9 => h9) rfl dX3_store_1 ?_
  refine lv_iload_n hx hb dX3_store_4 rfl (lv_at hl 1 rfl) ?_
  refine xcV (As := [.int p0]) (rest := []) ⟨hx, hb, hml, hown, hts⟩ (c_X2_storeAt l D cy ad nS nB st bk gate nu p0 (by omega)) (cwV 1 hts gX3_store_X2_storeAt rfl rfl rfl (by decide +kernel) ⟨Nat.le_of_ble_eq_true rfl, Nat.le_of_ble_eq_true rfl⟩) hK hP hD hS hA rfl rfl rfl (xE_town) rfl hl.1 rfl (Nat.le_of_ble_eq_true rfl) dX3_store_5 ⟨Nat.le_of_ble_eq_true rfl, Nat.le_of_ble_eq_true rfl⟩ (fun _ H locs _ hP hD hS => ?_)
  have hP : va_P D vwCl (xw cy h ad nS nB st bk gate nu bt wt) H := hP
  have hD : va_D A (xw cy h ad nS nB st bk gate nu bt wt) := hD
  refine W.eq (g2 := F0 m 8 ls [va_rf (sAt ad nS p0)]) rfl ?_
  refine W.eq (g2 := F0 m 8 ls [.null]) (by show F0 m 8 ls (va_rf (sAt ad nS p0) :: _) = _; rw [sAt_none hv]) ?_
  refine lv_ifnonnullN hx hb dX3_store_8 ?_
  exact xthrow (cls := E_I) (text := "there is no such store") hx hb hst hown (by decide +kernel) (hts (.classLink RX3 34 "java/lang/IndexOutOfBoundsException") (List.mem_of_getElem? (i := 1) rfl)) (hts (.initialized "java/lang/IndexOutOfBoundsException") (List.mem_of_getElem? (i := 2) rfl)) (List.mem_of_getElem? (i := 6) rfl) hV hZ (fun w h => hts w (List.mem_cons_of_mem _ (List.mem_append_right _ h))) xcovI xotI hS hP (hl.1.trans hml.symm) dX3_store_11 dX3_store_14 dX3_store_15 dX3_store_17 dX3_store_20 htb hlocks (Nat.le_of_ble_eq_true rfl) (Nat.le_of_ble_eq_true rfl) (Nat.le_of_ble_eq_true rfl) (Nat.le_of_ble_eq_true rfl) (Nat.le_of_ble_eq_true rfl) (Nat.le_of_ble_eq_true rfl)

set_option maxHeartbeats 4000000 in
set_option maxRecDepth 100000 in
theorem c_X3_store_1b (l : Launch) (hst : l.stackTraces = false) (D : va_G) (cy : Nat → ClassId) (sa : Nat → Nat) (h : Nat) (ad : Nat → Nat) (nS nB : Nat) (st bk : Nat → Iu) (gate nu : Iu) (bt : Nat) (wt : va_W) (i : Nat) (hi : i < nS) (p1 : Int32) (h2 : ¬ ((0 : Int32) ≤ p1 ∧ p1 ≤ 3)) (hcS : nS ≤ 4) (hcB : nB ≤ 6) : xT l D cy sa yX3_store wsX3_store ({ frames := 6, cells := 1, slots := 6, locals := 120 } : Room) [.ref h, .int (nI i), .int p1] (xw cy h ad nS nB st bk gate nu bt wt) E_I := by
  refine xT.of cX3_store 3 (some .int) RX3 (by decide +kernel) rfl rfl (Nat.le_of_ble_eq_true rfl) ?_
  intro p e s m below meth c A ls hx hb hr hts hown hlocks hml hin hK hA hP hD hS hV hZ htb hl
  have hl : lv_has ls 3 [(0, .ref h), (1, .int (nI i)), (2, .int p1)] := hl
  have hinX3 : ∀ w ∈ wsX30, w ∈ wsX3_store := fun _ h => List.mem_cons_of_mem _ (List.mem_append_left _ (List.mem_append_left _ (List.mem_append_left _ (List.mem_append_left _ (List.mem_append_right _ h)))))
  refine lv_aload_n hx hb dX3_store_0 rfl (lv_at hl 0 rfl) ?_
  refine va_get (D := D) (ci := 3) (v := .ref (ad 0)) (C := RX3) (T := TX3) (N := 2) hx hb hts hinX3 hown hK.1 hP 0 rfl rfl 0 (by decide) (hts (.fieldLink RX3 10 "LoafMarks" "town" "LLoafMarks$Town;") (List.mem_of_getElem? (i := 3) rfl)) (fun _ h9 => h9) rfl dX3_store_1 ?_
  refine lv_iload_n hx hb dX3_store_4 rfl (lv_at hl 1 rfl) ?_
  refine xcV (As := [.int (nI i)]) (rest := []) ⟨hx, hb, hml, hown, hts⟩ (c_X2_storeAt l D cy ad nS nB st bk gate nu (nI i) (by omega)) (cwV 1 hts gX3_store_X2_storeAt rfl rfl rfl (by decide +kernel) ⟨Nat.le_of_ble_eq_true rfl, Nat.le_of_ble_eq_true rfl⟩) hK hP hD hS hA rfl rfl rfl (xE_town) rfl hl.1 rfl (Nat.le_of_ble_eq_true rfl) dX3_store_5 ⟨Nat.le_of_ble_eq_true rfl, Nat.le_of_ble_eq_true rfl⟩ (fun _ H locs _ hP hD hS => ?_)
  have hP : va_P D vwCl (xw cy h ad nS nB st bk gate nu bt wt) H := hP
  have hD : va_D A (xw cy h ad nS nB st bk gate nu bt wt) := hD
  refine W.eq (g2 := F0 m 8 ls [va_rf (sAt ad nS (nI i))]) rfl ?_
  refine W.eq (g2 := F0 m 8 ls [.ref (ad (4 + i))]) (by show F0 m 8 ls (va_rf (sAt ad nS (nI i)) :: _) = _; rw [sAt_nI hi hcS]) ?_
  refine lv_ifnonnull (tgt := 21) hx hb dX3_store_8 (by decide) ?_
  refine lv_iload_n hx hb dX3_store_21 rfl (lv_at hl 2 rfl) ?_
  refine lv_iconst (v := 0) hx hb dX3_store_22 (by decide) ?_
  refine lv_iconst (v := 3) hx hb dX3_store_23 (by decide) ?_
  refine xcS (As := [.int p1, .int 0, .int 3]) (rest := []) ⟨hx, hb, hml, hown, hts⟩ (c_X3_isWithin l D cy p1 0 3) (va_cwS 3 hts gX3_store_X3_isWithin rfl rfl rfl (by decide +kernel) ⟨Nat.le_of_ble_eq_true rfl, Nat.le_of_ble_eq_true rfl⟩) hK hP hD hS hA (xE_nil) rfl hl.1 rfl (Nat.le_of_ble_eq_true rfl) dX3_store_24 ⟨Nat.le_of_ble_eq_true rfl, Nat.le_of_ble_eq_true rfl⟩ (fun _ H locs _ hP hD hS => ?_)
  have hP : va_P D vwCl (xw cy h ad nS nB st bk gate nu bt wt) H := hP
  have hD : va_D A (xw cy h ad nS nB st bk gate nu bt wt) := hD
  refine W.eq (g2 := F0 m 27 ls [.int (wi p1 0 3)]) rfl ?_
  refine lv_if_ne (tgt := 40) hx hb dX3_store_27 (by decide) (fun z => absurd (wi_no h2) z) (fun _ => ?_)
  exact xthrow (cls := E_I) (text := "what is not 0 to 3") hx hb hst hown (by decide +kernel) (hts (.classLink RX3 34 "java/lang/IndexOutOfBoundsException") (List.mem_of_getElem? (i := 1) rfl)) (hts (.initialized "java/lang/IndexOutOfBoundsException") (List.mem_of_getElem? (i := 2) rfl)) (List.mem_of_getElem? (i := 14) rfl) hV hZ (fun w h => hts w (List.mem_cons_of_mem _ (List.mem_append_right _ h))) xcovI xotI hS hP (hl.1.trans hml.symm) dX3_store_30 dX3_store_33 dX3_store_34 dX3_store_36 dX3_store_39 htb hlocks (Nat.le_of_ble_eq_true rfl) (Nat.le_of_ble_eq_true rfl) (Nat.le_of_ble_eq_true rfl) (Nat.le_of_ble_eq_true rfl) (Nat.le_of_ble_eq_true rfl) (Nat.le_of_ble_eq_true rfl)

set_option maxHeartbeats 4000000 in
set_option maxRecDepth 100000 in
/-- baker -/
theorem c_X3_baker (l : Launch) (D : va_G) (cy : Nat → ClassId) (h : Nat) (ad : Nat → Nat) (nS nB : Nat) (st bk : Nat → Iu) (gate nu : Iu) (bt : Nat) (wt : va_W) (j : Nat) (hj : j < nB) (k : Nat) (hk : k < 8) (hcS : nS ≤ 4) (hcB : nB ≤ 6) : xM l D cy yX3_baker wsX3_baker ({ frames := 6, cells := 1, slots := 6, locals := 120 } : Room) [.ref h, .int (nI j), .int (nI k)] (xw cy h ad nS nB st bk gate nu bt wt) (fun _ : Unit => some (.int (bFact (bk j) k))) (fun _ => True) (fun _ => xw cy h ad nS nB st bk gate nu bt wt) := by
  refine xM.of cX3_baker 4 (some .int) RX3 (by decide +kernel) rfl rfl (Nat.le_of_ble_eq_true rfl) ?_
  intro p e s m below meth c A ls hx hb hr hts hown hlocks hml hin hK hA hP hD hS hl
  have hl : lv_has ls 4 [(0, .ref h), (1, .int (nI j)), (2, .int (nI k))] := hl
  have hinX3 : ∀ w ∈ wsX30, w ∈ wsX3_baker := fun _ h => List.mem_cons_of_mem _ (List.mem_append_left _ (List.mem_append_left _ (List.mem_append_left _ (List.mem_append_right _ h))))
  refine lv_aload_n hx hb dX3_baker_0 rfl (lv_at hl 0 rfl) ?_
  refine va_get (D := D) (ci := 3) (v := .ref (ad 0)) (C := RX3) (T := TX3) (N := 2) hx hb hts hinX3 hown hK.1 hP 0 rfl rfl 0 (by decide) (hts (.fieldLink RX3 10 "LoafMarks" "town" "LLoafMarks$Town;") (List.mem_of_getElem? (i := 3) rfl)) (fun _ h9 => h9) rfl dX3_baker_1 ?_
  refine lv_iload_n hx hb dX3_baker_4 rfl (lv_at hl 1 rfl) ?_
  refine xcV (As := [.int (nI j)]) (rest := []) ⟨hx, hb, hml, hown, hts⟩ (c_X2_bakerAt l D cy ad nS nB st bk gate nu (nI j) (by omega)) (cwV 1 hts gX3_baker_X2_bakerAt rfl rfl rfl (by decide +kernel) ⟨Nat.le_of_ble_eq_true rfl, Nat.le_of_ble_eq_true rfl⟩) hK hP hD hS hA rfl rfl rfl (xE_town) rfl hl.1 rfl (Nat.le_of_ble_eq_true rfl) dX3_baker_5 ⟨Nat.le_of_ble_eq_true rfl, Nat.le_of_ble_eq_true rfl⟩ (fun _ H locs _ hP hD hS => ?_)
  have hP : va_P D vwCl (xw cy h ad nS nB st bk gate nu bt wt) H := hP
  have hD : va_D A (xw cy h ad nS nB st bk gate nu bt wt) := hD
  refine W.eq (g2 := F0 m 8 ls [va_rf (bAt ad nB (nI j))]) rfl ?_
  refine W.eq (g2 := F0 m 8 ls [.ref (ad (8 + j))]) (by show F0 m 8 ls (va_rf (bAt ad nB (nI j)) :: _) = _; rw [bAt_nI hj hcB]) ?_
  refine lv_astore_n (lv' := [(3, .ref (ad (8 + j))), (0, .ref h), (1, .int (nI j)), (2, .int (nI k))]) hx hb dX3_baker_8 rfl hl (by decide) rfl (fun ls hl => ?_)
  refine lv_aload_n hx hb dX3_baker_9 rfl (lv_at hl 0 rfl) ?_
  refine lv_ifnonnull (tgt := 23) hx hb dX3_baker_10 (by decide) ?_
  refine lv_iload_n hx hb dX3_baker_23 rfl (lv_at hl 3 rfl) ?_
  refine lv_iconst (v := 0) hx hb dX3_baker_24 (by decide) ?_
  refine lv_bipush (v := 7) hx hb dX3_baker_25 (by decide) ?_
  refine xcS (As := [.int (nI k), .int 0, .int 7]) (rest := []) ⟨hx, hb, hml, hown, hts⟩ (c_X3_isWithin l D cy (nI k) 0 7) (va_cwS 3 hts gX3_baker_X3_isWithin rfl rfl rfl (by decide +kernel) ⟨Nat.le_of_ble_eq_true rfl, Nat.le_of_ble_eq_true rfl⟩) hK hP hD hS hA (xE_nil) rfl hl.1 rfl (Nat.le_of_ble_eq_true rfl) dX3_baker_27 ⟨Nat.le_of_ble_eq_true rfl, Nat.le_of_ble_eq_true rfl⟩ (fun _ H locs _ hP hD hS => ?_)
  have hP : va_P D vwCl (xw cy h ad nS nB st bk gate nu bt wt) H := hP
  have hD : va_D A (xw cy h ad nS nB st bk gate nu bt wt) := hD
  refine W.eq (g2 := F0 m 30 ls [.int (wi (nI k) 0 7)]) rfl ?_
  refine lv_if_ne (tgt := 43) hx hb dX3_baker_30 (by decide) (fun _ => ?_) (fun z => absurd z (wi_ok ⟨nI_pos' (n := k) (by omega), nI_le (a := k) (b := 7) (by omega) (by decide)⟩))
  refine lv_aload_n hx hb dX3_baker_43 rfl (lv_at hl 0 rfl) ?_
  refine lv_iload_n hx hb dX3_baker_44 rfl (lv_at hl 3 rfl) ?_
  refine xcV (As := [.int (nI k)]) (rest := []) ⟨hx, hb, hml, hown, hts⟩ (c_X0_fact l D cy (ad (8 + j)) (bk j) k (by omega)) (cwV 1 hts gX3_baker_X0_fact rfl rfl rfl (by decide +kernel) ⟨Nat.le_of_ble_eq_true rfl, Nat.le_of_ble_eq_true rfl⟩) hK hP hD hS hA rfl rfl rfl (xE_xbk (bk j) hj) rfl hl.1 rfl (Nat.le_of_ble_eq_true rfl) dX3_baker_45 ⟨Nat.le_of_ble_eq_true rfl, Nat.le_of_ble_eq_true rfl⟩ (fun _ H locs _ hP hD hS => ?_)
  refine W.eq (g2 := F0 m 48 ls [.int (bFact (bk j) k)]) rfl ?_
  rw [up_self] at hP hD
  exact xri () hx hb hr hlocks hS (Nat.le_of_ble_eq_true rfl) (Nat.le_of_ble_eq_true rfl) dX3_baker_48 hP hD rfl trivial

set_option maxHeartbeats 4000000 in
set_option maxRecDepth 100000 in
theorem c_X3_baker_1a (l : Launch) (hst : l.stackTraces = false) (D : va_G) (cy : Nat → ClassId) (sa : Nat → Nat) (h : Nat) (ad : Nat → Nat) (nS nB : Nat) (st bk : Nat → Iu) (gate nu : Iu) (bt : Nat) (wt : va_W) (p0 p1 : Int32) (hv : ¬ vp_in p0 nB) (hcS : nS ≤ 4) (hcB : nB ≤ 6) : xT l D cy sa yX3_baker wsX3_baker ({ frames := 6, cells := 1, slots := 6, locals := 120 } : Room) [.ref h, .int p0, .int p1] (xw cy h ad nS nB st bk gate nu bt wt) E_I := by
  refine xT.of cX3_baker 4 (some .int) RX3 (by decide +kernel) rfl rfl (Nat.le_of_ble_eq_true rfl) ?_
  intro p e s m below meth c A ls hx hb hr hts hown hlocks hml hin hK hA hP hD hS hV hZ htb hl
  have hl : lv_has ls 4 [(0, .ref h), (1, .int p0), (2, .int p1)] := hl
  have hinX3 : ∀ w ∈ wsX30, w ∈ wsX3_baker := fun _ h => List.mem_cons_of_mem _ (List.mem_append_left _ (List.mem_append_left _ (List.mem_append_left _ (List.mem_append_right _ h))))
  refine lv_aload_n hx hb dX3_baker_0 rfl (lv_at hl 0 rfl) ?_
  refine va_get (D := D) (ci := 3) (v := .ref (ad 0)) (C := RX3) (T := TX3) (N := 2) hx hb hts hinX3 hown hK.1 hP 0 rfl rfl 0 (by decide) (hts (.fieldLink RX3 10 "LoafMarks" "town" "LLoafMarks$Town;") (List.mem_of_getElem? (i := 3) rfl)) (fun _ h9 => h9) rfl dX3_baker_1 ?_
  refine lv_iload_n hx hb dX3_baker_4 rfl (lv_at hl 1 rfl) ?_
  refine xcV (As := [.int p0]) (rest := []) ⟨hx, hb, hml, hown, hts⟩ (c_X2_bakerAt l D cy ad nS nB st bk gate nu p0 (by omega)) (cwV 1 hts gX3_baker_X2_bakerAt rfl rfl rfl (by decide +kernel) ⟨Nat.le_of_ble_eq_true rfl, Nat.le_of_ble_eq_true rfl⟩) hK hP hD hS hA rfl rfl rfl (xE_town) rfl hl.1 rfl (Nat.le_of_ble_eq_true rfl) dX3_baker_5 ⟨Nat.le_of_ble_eq_true rfl, Nat.le_of_ble_eq_true rfl⟩ (fun _ H locs _ hP hD hS => ?_)
  have hP : va_P D vwCl (xw cy h ad nS nB st bk gate nu bt wt) H := hP
  have hD : va_D A (xw cy h ad nS nB st bk gate nu bt wt) := hD
  refine W.eq (g2 := F0 m 8 ls [va_rf (bAt ad nB p0)]) rfl ?_
  refine W.eq (g2 := F0 m 8 ls [.null]) (by show F0 m 8 ls (va_rf (bAt ad nB p0) :: _) = _; rw [bAt_none hv]) ?_
  refine lv_astore_nN (lv' := [(3, .null), (0, .ref h), (1, .int p0), (2, .int p1)]) hx hb dX3_baker_8 rfl hl (by decide) rfl (fun ls hl => ?_)
  refine lv_aload_nN hx hb dX3_baker_9 rfl (lv_at hl 0 rfl) ?_
  refine lv_ifnonnullN hx hb dX3_baker_10 ?_
  exact xthrow (cls := E_I) (text := "there is no such baker") hx hb hst hown (by decide +kernel) (hts (.classLink RX3 34 "java/lang/IndexOutOfBoundsException") (List.mem_of_getElem? (i := 1) rfl)) (hts (.initialized "java/lang/IndexOutOfBoundsException") (List.mem_of_getElem? (i := 2) rfl)) (List.mem_of_getElem? (i := 12) rfl) hV hZ (fun w h => hts w (List.mem_cons_of_mem _ (List.mem_append_right _ h))) xcovI xotI hS hP (hl.1.trans hml.symm) dX3_baker_13 dX3_baker_16 dX3_baker_17 dX3_baker_19 dX3_baker_22 htb hlocks (Nat.le_of_ble_eq_true rfl) (Nat.le_of_ble_eq_true rfl) (Nat.le_of_ble_eq_true rfl) (Nat.le_of_ble_eq_true rfl) (Nat.le_of_ble_eq_true rfl) (Nat.le_of_ble_eq_true rfl)

set_option maxHeartbeats 4000000 in
set_option maxRecDepth 100000 in
theorem c_X3_baker_1b (l : Launch) (hst : l.stackTraces = false) (D : va_G) (cy : Nat → ClassId) (sa : Nat → Nat) (h : Nat) (ad : Nat → Nat) (nS nB : Nat) (st bk : Nat → Iu) (gate nu : Iu) (bt : Nat) (wt : va_W) (j : Nat) (hj : j < nB) (p1 : Int32) (h2 : ¬ ((0 : Int32) ≤ p1 ∧ p1 ≤ 7)) (hcS : nS ≤ 4) (hcB : nB ≤ 6) : xT l D cy sa yX3_baker wsX3_baker ({ frames := 6, cells := 1, slots := 6, locals := 120 } : Room) [.ref h, .int (nI j), .int p1] (xw cy h ad nS nB st bk gate nu bt wt) E_I := by
  refine xT.of cX3_baker 4 (some .int) RX3 (by decide +kernel) rfl rfl (Nat.le_of_ble_eq_true rfl) ?_
  intro p e s m below meth c A ls hx hb hr hts hown hlocks hml hin hK hA hP hD hS hV hZ htb hl
  have hl : lv_has ls 4 [(0, .ref h), (1, .int (nI j)), (2, .int p1)] := hl
  have hinX3 : ∀ w ∈ wsX30, w ∈ wsX3_baker := fun _ h => List.mem_cons_of_mem _ (List.mem_append_left _ (List.mem_append_left _ (List.mem_append_left _ (List.mem_append_right _ h))))
  refine lv_aload_n hx hb dX3_baker_0 rfl (lv_at hl 0 rfl) ?_
  refine va_get (D := D) (ci := 3) (v := .ref (ad 0)) (C := RX3) (T := TX3) (N := 2) hx hb hts hinX3 hown hK.1 hP 0 rfl rfl 0 (by decide) (hts (.fieldLink RX3 10 "LoafMarks" "town" "LLoafMarks$Town;") (List.mem_of_getElem? (i := 3) rfl)) (fun _ h9 => h9) rfl dX3_baker_1 ?_
  refine lv_iload_n hx hb dX3_baker_4 rfl (lv_at hl 1 rfl) ?_
  refine xcV (As := [.int (nI j)]) (rest := []) ⟨hx, hb, hml, hown, hts⟩ (c_X2_bakerAt l D cy ad nS nB st bk gate nu (nI j) (by omega)) (cwV 1 hts gX3_baker_X2_bakerAt rfl rfl rfl (by decide +kernel) ⟨Nat.le_of_ble_eq_true rfl, Nat.le_of_ble_eq_true rfl⟩) hK hP hD hS hA rfl rfl rfl (xE_town) rfl hl.1 rfl (Nat.le_of_ble_eq_true rfl) dX3_baker_5 ⟨Nat.le_of_ble_eq_true rfl, Nat.le_of_ble_eq_true rfl⟩ (fun _ H locs _ hP hD hS => ?_)
  have hP : va_P D vwCl (xw cy h ad nS nB st bk gate nu bt wt) H := hP
  have hD : va_D A (xw cy h ad nS nB st bk gate nu bt wt) := hD
  refine W.eq (g2 := F0 m 8 ls [va_rf (bAt ad nB (nI j))]) rfl ?_
  refine W.eq (g2 := F0 m 8 ls [.ref (ad (8 + j))]) (by show F0 m 8 ls (va_rf (bAt ad nB (nI j)) :: _) = _; rw [bAt_nI hj hcB]) ?_
  refine lv_astore_n (lv' := [(3, .ref (ad (8 + j))), (0, .ref h), (1, .int (nI j)), (2, .int p1)]) hx hb dX3_baker_8 rfl hl (by decide) rfl (fun ls hl => ?_)
  refine lv_aload_n hx hb dX3_baker_9 rfl (lv_at hl 0 rfl) ?_
  refine lv_ifnonnull (tgt := 23) hx hb dX3_baker_10 (by decide) ?_
  refine lv_iload_n hx hb dX3_baker_23 rfl (lv_at hl 3 rfl) ?_
  refine lv_iconst (v := 0) hx hb dX3_baker_24 (by decide) ?_
  refine lv_bipush (v := 7) hx hb dX3_baker_25 (by decide) ?_
  refine xcS (As := [.int p1, .int 0, .int 7]) (rest := []) ⟨hx, hb, hml, hown, hts⟩ (c_X3_isWithin l D cy p1 0 7) (va_cwS 3 hts gX3_baker_X3_isWithin rfl rfl rfl (by decide +kernel) ⟨Nat.le_of_ble_eq_true rfl, Nat.le_of_ble_eq_true rfl⟩) hK hP hD hS hA (xE_nil) rfl hl.1 rfl (Nat.le_of_ble_eq_true rfl) dX3_baker_27 ⟨Nat.le_of_ble_eq_true rfl, Nat.le_of_ble_eq_true rfl⟩ (fun _ H locs _ hP hD hS => ?_)
  have hP : va_P D vwCl (xw cy h ad nS nB st bk gate nu bt wt) H := hP
  have hD : va_D A (xw cy h ad nS nB st bk gate nu bt wt) := hD
  refine W.eq (g2 := F0 m 30 ls [.int (wi p1 0 7)]) rfl ?_
  refine lv_if_ne (tgt := 43) hx hb dX3_baker_30 (by decide) (fun z => absurd (wi_no h2) z) (fun _ => ?_)
  exact xthrow (cls := E_I) (text := "what is not 0 to 7") hx hb hst hown (by decide +kernel) (hts (.classLink RX3 34 "java/lang/IndexOutOfBoundsException") (List.mem_of_getElem? (i := 1) rfl)) (hts (.initialized "java/lang/IndexOutOfBoundsException") (List.mem_of_getElem? (i := 2) rfl)) (List.mem_of_getElem? (i := 15) rfl) hV hZ (fun w h => hts w (List.mem_cons_of_mem _ (List.mem_append_right _ h))) xcovI xotI hS hP (hl.1.trans hml.symm) dX3_baker_33 dX3_baker_36 dX3_baker_37 dX3_baker_39 dX3_baker_42 htb hlocks (Nat.le_of_ble_eq_true rfl) (Nat.le_of_ble_eq_true rfl) (Nat.le_of_ble_eq_true rfl) (Nat.le_of_ble_eq_true rfl) (Nat.le_of_ble_eq_true rfl) (Nat.le_of_ble_eq_true rfl)

set_option maxHeartbeats 4000000 in
set_option maxRecDepth 100000 in
/-- whose -/
theorem c_X3_whose (l : Launch) (D : va_G) (cy : Nat → ClassId) (h : Nat) (ad : Nat → Nat) (nS nB : Nat) (st bk : Nat → Iu) (gate nu : Iu) (bt : Nat) (wt : va_W) (p0 : Int32) (h1 : (0 : Int32) ≤ p0 ∧ p0 ≤ 25) (hcS : nS ≤ 4) (hcB : nB ≤ 6) : xM l D cy yX3_whose wsX3_whose ({ frames := 6, cells := 1, slots := 6, locals := 120 } : Room) [.ref h, .int p0] (xw cy h ad nS nB st bk gate nu bt wt) (fun _ : Unit => some (.int (ownF bk p0 nB 0))) (fun _ => True) (fun _ => xw cy h ad nS nB st bk gate nu bt wt) := by
  refine xM.of cX3_whose 2 (some .int) RX3 (by decide +kernel) rfl rfl (Nat.le_of_ble_eq_true rfl) ?_
  intro p e s m below meth c A ls hx hb hr hts hown hlocks hml hin hK hA hP hD hS hl
  have hl : lv_has ls 2 [(0, .ref h), (1, .int p0)] := hl
  have hinX3 : ∀ w ∈ wsX30, w ∈ wsX3_whose := fun _ h => List.mem_cons_of_mem _ (List.mem_append_left _ (List.mem_append_left _ (List.mem_append_left _ (List.mem_append_right _ h))))
  refine lv_iload_n hx hb dX3_whose_0 rfl (lv_at hl 1 rfl) ?_
  refine lv_iconst (v := 0) hx hb dX3_whose_1 (by decide) ?_
  refine lv_bipush (v := 25) hx hb dX3_whose_2 (by decide) ?_
  refine xcS (As := [.int p0, .int 0, .int 25]) (rest := []) ⟨hx, hb, hml, hown, hts⟩ (c_X3_isWithin l D cy p0 0 25) (va_cwS 3 hts gX3_whose_X3_isWithin rfl rfl rfl (by decide +kernel) ⟨Nat.le_of_ble_eq_true rfl, Nat.le_of_ble_eq_true rfl⟩) hK hP hD hS hA (xE_nil) rfl hl.1 rfl (Nat.le_of_ble_eq_true rfl) dX3_whose_4 ⟨Nat.le_of_ble_eq_true rfl, Nat.le_of_ble_eq_true rfl⟩ (fun _ H locs _ hP hD hS => ?_)
  have hP : va_P D vwCl (xw cy h ad nS nB st bk gate nu bt wt) H := hP
  have hD : va_D A (xw cy h ad nS nB st bk gate nu bt wt) := hD
  refine W.eq (g2 := F0 m 7 ls [.int (wi p0 0 25)]) rfl ?_
  refine lv_if_ne (tgt := 20) hx hb dX3_whose_7 (by decide) (fun _ => ?_) (fun z => absurd z (wi_ok h1))
  refine lv_aload_n hx hb dX3_whose_20 rfl (lv_at hl 0 rfl) ?_
  refine va_get (D := D) (ci := 3) (v := .ref (ad 0)) (C := RX3) (T := TX3) (N := 2) hx hb hts hinX3 hown hK.1 hP 0 rfl rfl 0 (by decide) (hts (.fieldLink RX3 10 "LoafMarks" "town" "LLoafMarks$Town;") (List.mem_of_getElem? (i := 3) rfl)) (fun _ h9 => h9) rfl dX3_whose_21 ?_
  refine lv_iload_n hx hb dX3_whose_24 rfl (lv_at hl 1 rfl) ?_
  refine xcV (As := [.int p0]) (rest := []) ⟨hx, hb, hml, hown, hts⟩ (c_X2_bakerWithMark l D cy ad nS nB st bk gate nu p0 (by omega)) (cwV 1 hts gX3_whose_X2_bakerWithMark rfl rfl rfl (by decide +kernel) ⟨Nat.le_of_ble_eq_true rfl, Nat.le_of_ble_eq_true rfl⟩) hK hP hD hS hA rfl rfl rfl (xE_town) rfl hl.1 rfl (Nat.le_of_ble_eq_true rfl) dX3_whose_25 ⟨Nat.le_of_ble_eq_true rfl, Nat.le_of_ble_eq_true rfl⟩ (fun _ H locs _ hP hD hS => ?_)
  have hP : va_P D vwCl (xw cy h ad nS nB st bk gate nu bt wt) H := hP
  have hD : va_D A (xw cy h ad nS nB st bk gate nu bt wt) := hD
  refine W.eq (g2 := F0 m 28 ls [.int (ownF bk p0 nB 0)]) rfl ?_
  exact xri () hx hb hr hlocks hS (Nat.le_of_ble_eq_true rfl) (Nat.le_of_ble_eq_true rfl) dX3_whose_28 hP hD rfl trivial

set_option maxHeartbeats 4000000 in
set_option maxRecDepth 100000 in
theorem c_X3_whose_1 (l : Launch) (hst : l.stackTraces = false) (D : va_G) (cy : Nat → ClassId) (sa : Nat → Nat) (h : Nat) (ad : Nat → Nat) (nS nB : Nat) (st bk : Nat → Iu) (gate nu : Iu) (bt : Nat) (wt : va_W) (p0 : Int32) (h1 : ¬ ((0 : Int32) ≤ p0 ∧ p0 ≤ 25)) : xT l D cy sa yX3_whose wsX3_whose ({ frames := 6, cells := 1, slots := 6, locals := 120 } : Room) [.ref h, .int p0] (xw cy h ad nS nB st bk gate nu bt wt) E_A := by
  refine xT.of cX3_whose 2 (some .int) RX3 (by decide +kernel) rfl rfl (Nat.le_of_ble_eq_true rfl) ?_
  intro p e s m below meth c A ls hx hb hr hts hown hlocks hml hin hK hA hP hD hS hV hZ htb hl
  have hl : lv_has ls 2 [(0, .ref h), (1, .int p0)] := hl
  refine lv_iload_n hx hb dX3_whose_0 rfl (lv_at hl 1 rfl) ?_
  refine lv_iconst (v := 0) hx hb dX3_whose_1 (by decide) ?_
  refine lv_bipush (v := 25) hx hb dX3_whose_2 (by decide) ?_
  refine xcS (As := [.int p0, .int 0, .int 25]) (rest := []) ⟨hx, hb, hml, hown, hts⟩ (c_X3_isWithin l D cy p0 0 25) (va_cwS 3 hts gX3_whose_X3_isWithin rfl rfl rfl (by decide +kernel) ⟨Nat.le_of_ble_eq_true rfl, Nat.le_of_ble_eq_true rfl⟩) hK hP hD hS hA (xE_nil) rfl hl.1 rfl (Nat.le_of_ble_eq_true rfl) dX3_whose_4 ⟨Nat.le_of_ble_eq_true rfl, Nat.le_of_ble_eq_true rfl⟩ (fun _ H locs _ hP hD hS => ?_)
  have hP : va_P D vwCl (xw cy h ad nS nB st bk gate nu bt wt) H := hP
  have hD : va_D A (xw cy h ad nS nB st bk gate nu bt wt) := hD
  refine W.eq (g2 := F0 m 7 ls [.int (wi p0 0 25)]) rfl ?_
  refine lv_if_ne (tgt := 20) hx hb dX3_whose_7 (by decide) (fun z => absurd (wi_no h1) z) (fun _ => ?_)
  exact xthrow (cls := E_A) (text := "mark is not 0 to 25") hx hb hst hown (by decide +kernel) (hts (.classLink RX3 23 "java/lang/IllegalArgumentException") (List.mem_of_getElem? (i := 1) rfl)) (hts (.initialized "java/lang/IllegalArgumentException") (List.mem_of_getElem? (i := 2) rfl)) (List.mem_of_getElem? (i := 7) rfl) hV hZ (fun w h => hts w (List.mem_cons_of_mem _ (List.mem_append_right _ h))) xcovA xotA hS hP (hl.1.trans hml.symm) dX3_whose_10 dX3_whose_13 dX3_whose_14 dX3_whose_16 dX3_whose_19 htb hlocks (Nat.le_of_ble_eq_true rfl) (Nat.le_of_ble_eq_true rfl) (Nat.le_of_ble_eq_true rfl) (Nat.le_of_ble_eq_true rfl) (Nat.le_of_ble_eq_true rfl) (Nat.le_of_ble_eq_true rfl)

set_option maxHeartbeats 4000000 in
set_option maxRecDepth 100000 in
/-- count -/
theorem c_X3_count (l : Launch) (D : va_G) (cy : Nat → ClassId) (h : Nat) (ad : Nat → Nat) (nS nB : Nat) (st bk : Nat → Iu) (gate nu : Iu) (bt : Nat) (wt : va_W) (hq k : Nat) (eh : nu 0 = nI hq) (hh : hq < 2 ^ 31) (hk : k < 10) (hcS : nS ≤ 4) (hcB : nB ≤ 6) : xM l D cy yX3_count wsX3_count ({ frames := 6, cells := 1, slots := 6, locals := 120 } : Room) [.ref h, .int (nI k)] (xw cy h ad nS nB st bk gate nu bt wt) (fun _ : Unit => some (.int (tFact nS nB st bk nu hq k))) (fun _ => True) (fun _ => xw cy h ad nS nB st bk gate nu bt wt) := by
  refine xM.of cX3_count 2 (some .int) RX3 (by decide +kernel) rfl rfl (Nat.le_of_ble_eq_true rfl) ?_
  intro p e s m below meth c A ls hx hb hr hts hown hlocks hml hin hK hA hP hD hS hl
  have hl : lv_has ls 2 [(0, .ref h), (1, .int (nI k))] := hl
  have hinX3 : ∀ w ∈ wsX30, w ∈ wsX3_count := fun _ h => List.mem_cons_of_mem _ (List.mem_append_left _ (List.mem_append_left _ (List.mem_append_left _ (List.mem_append_left _ (List.mem_append_right _ h)))))
  refine lv_iload_n hx hb dX3_count_0 rfl (lv_at hl 1 rfl) ?_
  refine lv_iconst (v := 0) hx hb dX3_count_1 (by decide) ?_
  refine lv_bipush (v := 9) hx hb dX3_count_2 (by decide) ?_
  refine xcS (As := [.int (nI k), .int 0, .int 9]) (rest := []) ⟨hx, hb, hml, hown, hts⟩ (c_X3_isWithin l D cy (nI k) 0 9) (va_cwS 3 hts gX3_count_X3_isWithin rfl rfl rfl (by decide +kernel) ⟨Nat.le_of_ble_eq_true rfl, Nat.le_of_ble_eq_true rfl⟩) hK hP hD hS hA (xE_nil) rfl hl.1 rfl (Nat.le_of_ble_eq_true rfl) dX3_count_4 ⟨Nat.le_of_ble_eq_true rfl, Nat.le_of_ble_eq_true rfl⟩ (fun _ H locs _ hP hD hS => ?_)
  have hP : va_P D vwCl (xw cy h ad nS nB st bk gate nu bt wt) H := hP
  have hD : va_D A (xw cy h ad nS nB st bk gate nu bt wt) := hD
  refine W.eq (g2 := F0 m 7 ls [.int (wi (nI k) 0 9)]) rfl ?_
  refine lv_if_ne (tgt := 20) hx hb dX3_count_7 (by decide) (fun _ => ?_) (fun z => absurd z (wi_ok ⟨nI_pos' (n := k) (by omega), nI_le (a := k) (b := 9) (by omega) (by decide)⟩))
  refine lv_aload_n hx hb dX3_count_20 rfl (lv_at hl 0 rfl) ?_
  refine va_get (D := D) (ci := 3) (v := .ref (ad 0)) (C := RX3) (T := TX3) (N := 2) hx hb hts hinX3 hown hK.1 hP 0 rfl rfl 0 (by decide) (hts (.fieldLink RX3 10 "LoafMarks" "town" "LLoafMarks$Town;") (List.mem_of_getElem? (i := 3) rfl)) (fun _ h9 => h9) rfl dX3_count_21 ?_
  refine lv_iload_n hx hb dX3_count_24 rfl (lv_at hl 1 rfl) ?_
  refine xcV (As := [.int (nI k)]) (rest := []) ⟨hx, hb, hml, hown, hts⟩ (c_X2_fact l D cy ad nS nB st bk gate nu hq k eh hh hk hcS hcB) (cwV 1 hts gX3_count_X2_fact rfl rfl rfl (by decide +kernel) ⟨Nat.le_of_ble_eq_true rfl, Nat.le_of_ble_eq_true rfl⟩) hK hP hD hS hA rfl rfl rfl (xE_town) rfl hl.1 rfl (Nat.le_of_ble_eq_true rfl) dX3_count_25 ⟨Nat.le_of_ble_eq_true rfl, Nat.le_of_ble_eq_true rfl⟩ (fun _ H locs _ hP hD hS => ?_)
  have hP : va_P D vwCl (xw cy h ad nS nB st bk gate nu bt wt) H := hP
  have hD : va_D A (xw cy h ad nS nB st bk gate nu bt wt) := hD
  refine W.eq (g2 := F0 m 28 ls [.int (tFact nS nB st bk nu hq k)]) rfl ?_
  exact xri () hx hb hr hlocks hS (Nat.le_of_ble_eq_true rfl) (Nat.le_of_ble_eq_true rfl) dX3_count_28 hP hD rfl trivial

set_option maxHeartbeats 4000000 in
set_option maxRecDepth 100000 in
theorem c_X3_count_1 (l : Launch) (hst : l.stackTraces = false) (D : va_G) (cy : Nat → ClassId) (sa : Nat → Nat) (h : Nat) (ad : Nat → Nat) (nS nB : Nat) (st bk : Nat → Iu) (gate nu : Iu) (bt : Nat) (wt : va_W) (p0 : Int32) (h1 : ¬ ((0 : Int32) ≤ p0 ∧ p0 ≤ 9)) : xT l D cy sa yX3_count wsX3_count ({ frames := 6, cells := 1, slots := 6, locals := 120 } : Room) [.ref h, .int p0] (xw cy h ad nS nB st bk gate nu bt wt) E_I := by
  refine xT.of cX3_count 2 (some .int) RX3 (by decide +kernel) rfl rfl (Nat.le_of_ble_eq_true rfl) ?_
  intro p e s m below meth c A ls hx hb hr hts hown hlocks hml hin hK hA hP hD hS hV hZ htb hl
  have hl : lv_has ls 2 [(0, .ref h), (1, .int p0)] := hl
  refine lv_iload_n hx hb dX3_count_0 rfl (lv_at hl 1 rfl) ?_
  refine lv_iconst (v := 0) hx hb dX3_count_1 (by decide) ?_
  refine lv_bipush (v := 9) hx hb dX3_count_2 (by decide) ?_
  refine xcS (As := [.int p0, .int 0, .int 9]) (rest := []) ⟨hx, hb, hml, hown, hts⟩ (c_X3_isWithin l D cy p0 0 9) (va_cwS 3 hts gX3_count_X3_isWithin rfl rfl rfl (by decide +kernel) ⟨Nat.le_of_ble_eq_true rfl, Nat.le_of_ble_eq_true rfl⟩) hK hP hD hS hA (xE_nil) rfl hl.1 rfl (Nat.le_of_ble_eq_true rfl) dX3_count_4 ⟨Nat.le_of_ble_eq_true rfl, Nat.le_of_ble_eq_true rfl⟩ (fun _ H locs _ hP hD hS => ?_)
  have hP : va_P D vwCl (xw cy h ad nS nB st bk gate nu bt wt) H := hP
  have hD : va_D A (xw cy h ad nS nB st bk gate nu bt wt) := hD
  refine W.eq (g2 := F0 m 7 ls [.int (wi p0 0 9)]) rfl ?_
  refine lv_if_ne (tgt := 20) hx hb dX3_count_7 (by decide) (fun z => absurd (wi_no h1) z) (fun _ => ?_)
  exact xthrow (cls := E_I) (text := "what is not 0 to 9") hx hb hst hown (by decide +kernel) (hts (.classLink RX3 34 "java/lang/IndexOutOfBoundsException") (List.mem_of_getElem? (i := 1) rfl)) (hts (.initialized "java/lang/IndexOutOfBoundsException") (List.mem_of_getElem? (i := 2) rfl)) (List.mem_of_getElem? (i := 16) rfl) hV hZ (fun w h => hts w (List.mem_cons_of_mem _ (List.mem_append_right _ h))) xcovI xotI hS hP (hl.1.trans hml.symm) dX3_count_10 dX3_count_13 dX3_count_14 dX3_count_16 dX3_count_19 htb hlocks (Nat.le_of_ble_eq_true rfl) (Nat.le_of_ble_eq_true rfl) (Nat.le_of_ble_eq_true rfl) (Nat.le_of_ble_eq_true rfl) (Nat.le_of_ble_eq_true rfl) (Nat.le_of_ble_eq_true rfl)

set_option maxHeartbeats 4000000 in
set_option maxRecDepth 100000 in
/-- pass -/
theorem c_X3_pass (l : Launch) (D : va_G) (cy : Nat → ClassId) (h : Nat) (ad : Nat → Nat) (nS nB : Nat) (st bk : Nat → Iu) (gate nu : Iu) (bt : Nat) (wt : va_W) (hq n : Nat) (eh : nu 0 = nI hq) (hn1 : 1 ≤ n) (hn2 : n ≤ 240) (hh : hq + n < 2 ^ 31) (hcS : nS ≤ 4) (hcB : nB ≤ 6) (hof : ∀ j, j < nB → ∃ i, i < nS ∧ bk j 0 = nI i) : xM l D cy yX3_pass wsX3_pass ({ frames := 6, cells := 1, slots := 6, locals := 180 } : Room) [.ref h, .int (nI n)] (xw cy h ad nS nB st bk gate nu bt wt) (fun _ : Unit => some (.int (unf nS nB hq gate (st, bk, nu) n))) (fun _ => True) (fun _ => xw cy h ad nS nB (hrs nS nB hq gate (st, bk, nu) n).1 (hrs nS nB hq gate (st, bk, nu) n).2.1 gate (hrs nS nB hq gate (st, bk, nu) n).2.2 bt wt) := by
  refine xM.of cX3_pass 2 (some .int) RX3 (by decide +kernel) rfl rfl (Nat.le_of_ble_eq_true rfl) ?_
  intro p e s m below meth c A ls hx hb hr hts hown hlocks hml hin hK hA hP hD hS hl
  have hl : lv_has ls 2 [(0, .ref h), (1, .int (nI n))] := hl
  have hinX3 : ∀ w ∈ wsX30, w ∈ wsX3_pass := fun _ h => List.mem_cons_of_mem _ (List.mem_append_left _ (List.mem_append_left _ (List.mem_append_left _ (List.mem_append_left _ (List.mem_append_right _ h)))))
  refine lv_iload_n hx hb dX3_pass_0 rfl (lv_at hl 1 rfl) ?_
  refine lv_iconst (v := 1) hx hb dX3_pass_1 (by decide) ?_
  refine lv_sipush (v := 240) hx hb dX3_pass_2 (by decide) ?_
  refine xcS (As := [.int (nI n), .int 1, .int 240]) (rest := []) ⟨hx, hb, hml, hown, hts⟩ (c_X3_isWithin l D cy (nI n) 1 240) (va_cwS 3 hts gX3_pass_X3_isWithin rfl rfl rfl (by decide +kernel) ⟨Nat.le_of_ble_eq_true rfl, Nat.le_of_ble_eq_true rfl⟩) hK hP hD hS hA (xE_nil) rfl hl.1 rfl (Nat.le_of_ble_eq_true rfl) dX3_pass_5 ⟨Nat.le_of_ble_eq_true rfl, Nat.le_of_ble_eq_true rfl⟩ (fun _ H locs _ hP hD hS => ?_)
  have hP : va_P D vwCl (xw cy h ad nS nB st bk gate nu bt wt) H := hP
  have hD : va_D A (xw cy h ad nS nB st bk gate nu bt wt) := hD
  refine W.eq (g2 := F0 m 8 ls [.int (wi (nI n) 1 240)]) rfl ?_
  refine lv_if_ne (tgt := 21) hx hb dX3_pass_8 (by decide) (fun _ => ?_) (fun z => absurd z (wi_ok ⟨nI_le (a := 1) (b := n) (by omega) (by omega), nI_le (a := n) (b := 240) (by omega) (by decide)⟩))
  refine lv_aload_n hx hb dX3_pass_21 rfl (lv_at hl 0 rfl) ?_
  refine va_get (D := D) (ci := 3) (v := .ref (ad 0)) (C := RX3) (T := TX3) (N := 2) hx hb hts hinX3 hown hK.1 hP 0 rfl rfl 0 (by decide) (hts (.fieldLink RX3 10 "LoafMarks" "town" "LLoafMarks$Town;") (List.mem_of_getElem? (i := 3) rfl)) (fun _ h9 => h9) rfl dX3_pass_22 ?_
  refine lv_iload_n hx hb dX3_pass_25 rfl (lv_at hl 1 rfl) ?_
  refine xcV (As := [.int (nI n)]) (rest := []) ⟨hx, hb, hml, hown, hts⟩ (c_X2_goThrough l D cy ad nS nB (st, bk, nu) gate hq n eh hh hcS hcB hof) (cwV 1 hts gX3_pass_X2_goThrough rfl rfl rfl (by decide +kernel) ⟨Nat.le_of_ble_eq_true rfl, Nat.le_of_ble_eq_true rfl⟩) hK hP hD hS hA rfl rfl rfl (xE_town) rfl hl.1 rfl (Nat.le_of_ble_eq_true rfl) dX3_pass_26 ⟨Nat.le_of_ble_eq_true rfl, Nat.le_of_ble_eq_true rfl⟩ (fun _ H locs _ hP hD hS => ?_)
  have hP : va_P D vwCl (xw cy h ad nS nB ((hrs nS nB hq gate (st, bk, nu) n).1) ((hrs nS nB hq gate (st, bk, nu) n).2.1) gate ((hrs nS nB hq gate (st, bk, nu) n).2.2) bt wt) H := hP
  have hD : va_D A (xw cy h ad nS nB ((hrs nS nB hq gate (st, bk, nu) n).1) ((hrs nS nB hq gate (st, bk, nu) n).2.1) gate ((hrs nS nB hq gate (st, bk, nu) n).2.2) bt wt) := hD
  refine W.eq (g2 := F0 m 29 ls [.int (unf nS nB hq gate (st, bk, nu) n)]) rfl ?_
  exact xri () hx hb hr hlocks hS (Nat.le_of_ble_eq_true rfl) (Nat.le_of_ble_eq_true rfl) dX3_pass_29 hP hD rfl trivial

set_option maxHeartbeats 4000000 in
set_option maxRecDepth 100000 in
theorem c_X3_pass_1 (l : Launch) (hst : l.stackTraces = false) (D : va_G) (cy : Nat → ClassId) (sa : Nat → Nat) (h : Nat) (ad : Nat → Nat) (nS nB : Nat) (st bk : Nat → Iu) (gate nu : Iu) (bt : Nat) (wt : va_W) (p0 : Int32) (h1 : ¬ ((1 : Int32) ≤ p0 ∧ p0 ≤ 240)) : xT l D cy sa yX3_pass wsX3_pass ({ frames := 6, cells := 1, slots := 6, locals := 180 } : Room) [.ref h, .int p0] (xw cy h ad nS nB st bk gate nu bt wt) E_A := by
  refine xT.of cX3_pass 2 (some .int) RX3 (by decide +kernel) rfl rfl (Nat.le_of_ble_eq_true rfl) ?_
  intro p e s m below meth c A ls hx hb hr hts hown hlocks hml hin hK hA hP hD hS hV hZ htb hl
  have hl : lv_has ls 2 [(0, .ref h), (1, .int p0)] := hl
  refine lv_iload_n hx hb dX3_pass_0 rfl (lv_at hl 1 rfl) ?_
  refine lv_iconst (v := 1) hx hb dX3_pass_1 (by decide) ?_
  refine lv_sipush (v := 240) hx hb dX3_pass_2 (by decide) ?_
  refine xcS (As := [.int p0, .int 1, .int 240]) (rest := []) ⟨hx, hb, hml, hown, hts⟩ (c_X3_isWithin l D cy p0 1 240) (va_cwS 3 hts gX3_pass_X3_isWithin rfl rfl rfl (by decide +kernel) ⟨Nat.le_of_ble_eq_true rfl, Nat.le_of_ble_eq_true rfl⟩) hK hP hD hS hA (xE_nil) rfl hl.1 rfl (Nat.le_of_ble_eq_true rfl) dX3_pass_5 ⟨Nat.le_of_ble_eq_true rfl, Nat.le_of_ble_eq_true rfl⟩ (fun _ H locs _ hP hD hS => ?_)
  have hP : va_P D vwCl (xw cy h ad nS nB st bk gate nu bt wt) H := hP
  have hD : va_D A (xw cy h ad nS nB st bk gate nu bt wt) := hD
  refine W.eq (g2 := F0 m 8 ls [.int (wi p0 1 240)]) rfl ?_
  refine lv_if_ne (tgt := 21) hx hb dX3_pass_8 (by decide) (fun z => absurd (wi_no h1) z) (fun _ => ?_)
  exact xthrow (cls := E_A) (text := "hours is not 1 to 240") hx hb hst hown (by decide +kernel) (hts (.classLink RX3 23 "java/lang/IllegalArgumentException") (List.mem_of_getElem? (i := 1) rfl)) (hts (.initialized "java/lang/IllegalArgumentException") (List.mem_of_getElem? (i := 2) rfl)) (List.mem_of_getElem? (i := 17) rfl) hV hZ (fun w h => hts w (List.mem_cons_of_mem _ (List.mem_append_right _ h))) xcovA xotA hS hP (hl.1.trans hml.symm) dX3_pass_11 dX3_pass_14 dX3_pass_15 dX3_pass_17 dX3_pass_20 htb hlocks (Nat.le_of_ble_eq_true rfl) (Nat.le_of_ble_eq_true rfl) (Nat.le_of_ble_eq_true rfl) (Nat.le_of_ble_eq_true rfl) (Nat.le_of_ble_eq_true rfl) (Nat.le_of_ble_eq_true rfl)
end
section
/-! ===== LoafMarks: looking ahead, the digest (laid by gen23.py) ===== -/
section XTR
variable {cy : Nat → ClassId} {h : Nat} {ad av : Nat → Nat} {nS nB mS mB : Nat} {st bk ts tb : Nat → Iu} {gate nu tg tn : Iu} {bt : Nat}
theorem xw_tr_bk {j : Nat} (hj : j < mB) : (xw cy h ad nS nB st bk gate nu bt (tw cy av mS mB ts tb tg tn))[(tw cy ad nS nB st bk gate nu).length + (4 + mS + j) + 1]? = some (av (8 + j), cBk (tb j)) := by
  unfold xw
  rw [List.getElem?_cons_succ]
  exact at_r (tw_bk hj)
theorem xw_set_tr {j : Nat} {x : Iu} (hj : j < mB) : (xw cy h ad nS nB st bk gate nu bt (tw cy av mS mB ts tb tg tn)).set ((tw cy ad nS nB st bk gate nu).length + (4 + mS + j) + 1) (av (8 + j), cBk x) = xw cy h ad nS nB st bk gate nu bt (tw cy av mS mB ts (va_up tb j x) tg tn) := by
  unfold xw
  rw [List.set_cons_succ, List.set_append_right _ _ (by omega), Nat.add_sub_cancel_left, tw_set_bk hj]
end XTR
theorem rat_of {nS nB : Nat} {bk : Nat → Iu} {p1 : Int32} (jq : Nat) (hof : ∀ j, j < nB → ∃ i, i < nS ∧ bk j 0 = nI i) : ∀ j, j < nB → ∃ i, i < nS ∧ (va_up bk jq (upd (bk jq) 2 p1)) j 0 = nI i := by
  intro j hj
  obtain ⟨i, hi, e⟩ := hof j hj
  refine ⟨i, hi, ?_⟩
  unfold va_up
  split
  · rename_i e2; subst e2; rw [upd_ne (by decide)]; exact e
  · exact e
/-- what foresee tells behind some hours -/
def fsF (nS nB : Nat) (x : Int32) (v : TS) (w : Nat) : Int32 := if w = 0 then x else if w = 1 then sm (fun i => v.1 i 0) nS else if w = 2 then sm (fun j => v.2.1 j 5) nB else sm (fun i => v.1 i 1) nS
theorem nI_10 (a : Nat) : nI a + 10 = nI (a + 10) := nI_add a 10
set_option maxHeartbeats 4000000 in
set_option maxRecDepth 100000 in
/-- lasts -/
theorem c_X3_lasts (l : Launch) (D : va_G) (cy : Nat → ClassId) (h : Nat) (ad av : Nat → Nat) (nS nB tS tB : Nat) (st bk ts tb : Nat → Iu) (gate nu tg tn : Iu) (hSM : tS ≤ nS) (hBM : tB ≤ nB) (hcS : nS ≤ 4) (hcB : nB ≤ 6) (hb7 : ∀ j, j < nB → bk j 7 = 0 ∨ bk j 7 = 1) (hq : Nat) (eh : nu 0 = nI hq) (hh : hq + 480 < 2 ^ 31) (hof : ∀ j, j < nB → ∃ i, i < nS ∧ bk j 0 = nI i) : xM l D cy yX3_lasts wsX3_lasts ({ frames := 6, cells := 10, slots := 60, locals := 180 } : Room) [.ref h] (xw cy h ad nS nB st bk gate nu (av 0) (tw cy av tS tB ts tb tg tn)) (fun _ : (Nat → Nat) × TS => some (.int (lastN nS nB hq gate (st, bk, nu) 480 0))) (fun _ => True) (fun q => xw cy h ad nS nB st bk gate nu (q.1 0) (tw cy q.1 nS nB q.2.1 q.2.2.1 gate q.2.2.2)) := by
  refine xM.of cX3_lasts 2 (some .int) RX3 (by decide +kernel) rfl rfl (Nat.le_of_ble_eq_true rfl) ?_
  intro p e s m below meth c A ls hx hb hr hts hown hlocks hml hin hK hA hP hD hS hl
  have hl : lv_has ls 2 [(0, .ref h)] := hl
  have hinX3 : ∀ w ∈ wsX30, w ∈ wsX3_lasts := fun _ h => List.mem_cons_of_mem _ (List.mem_append_left _ (List.mem_append_left _ (List.mem_append_left _ (List.mem_append_right _ h))))
  refine lv_aload_n hx hb dX3_lasts_0 rfl (lv_at hl 0 rfl) ?_
  refine va_get (D := D) (ci := 3) (v := .ref (av 0)) (C := RX3) (T := TX3) (N := 2) hx hb hts hinX3 hown hK.1 hP 0 rfl rfl 1 (by decide) (hts (.fieldLink RX3 16 "LoafMarks" "trial" "LLoafMarks$Town;") (List.mem_of_getElem? (i := 1) rfl)) (fun _ h9 => h9) rfl dX3_lasts_1 ?_
  refine lv_aload_n hx hb dX3_lasts_4 rfl (lv_at hl 0 rfl) ?_
  refine va_get (D := D) (ci := 3) (v := .ref (ad 0)) (C := RX3) (T := TX3) (N := 2) hx hb hts hinX3 hown hK.1 hP 0 rfl rfl 0 (by decide) (hts (.fieldLink RX3 10 "LoafMarks" "town" "LLoafMarks$Town;") (List.mem_of_getElem? (i := 2) rfl)) (fun _ h9 => h9) rfl dX3_lasts_5 ?_
  refine xcV (As := [.ref (ad 0)]) (rest := []) ⟨hx, hb, hml, hown, hts⟩ (c_X2_becomeLike l D cy av ad tS tB nS nB ts tb st bk tg tn gate nu hSM hcS hBM hcB hb7) (cwV 1 hts gX3_lasts_X2_becomeLike rfl rfl rfl (by decide +kernel) ⟨Nat.le_of_ble_eq_true rfl, Nat.le_of_ble_eq_true rfl⟩) hK hP hD hS hA rfl rfl rfl (xE_both) rfl hl.1 rfl (Nat.le_of_ble_eq_true rfl) dX3_lasts_8 ⟨Nat.le_of_ble_eq_true rfl, Nat.le_of_ble_eq_true rfl⟩ (fun a2 H locs ha2 hP hD hS => ?_)
  have hP : va_P D vwCl (xw cy h ad nS nB st bk gate nu (av 0) (tw cy a2 nS nB st bk gate nu)) H := hP
  have hD : va_D A (xw cy h ad nS nB st bk gate nu (av 0) (tw cy a2 nS nB st bk gate nu)) := hD
  refine W.eq (g2 := F0 m 11 ls []) rfl ?_
  have e0 : av 0 = a2 0 := (ha2 0 (by decide)).symm
  rw [e0] at hP hD
  refine lv_iconst (v := 1) hx hb dX3_lasts_11 (by decide) ?_
  refine lv_istore_n (lv' := [(1, .int 1), (0, .ref h)]) hx hb dX3_lasts_12 rfl hl (by decide) rfl (fun ls hl => ?_)
  have loop : ∀ (n i : Nat)  (H : Heap) (locs : List Loc) (ls : Array Slot), i + n = 480 → (lastN nS nB hq gate (st, bk, nu) 480 0 = lastN nS nB hq gate (st, bk, nu) n i) → va_P D vwCl (xw cy h ad nS nB st bk gate nu (a2 0) (tw cy a2 nS nB ((hrs nS nB hq gate (st, bk, nu) i).1) ((hrs nS nB hq gate (st, bk, nu) i).2.1) gate ((hrs nS nB hq gate (st, bk, nu) i).2.2))) H → va_D A (xw cy h ad nS nB st bk gate nu (a2 0) (tw cy a2 nS nB ((hrs nS nB hq gate (st, bk, nu) i).1) ((hrs nS nB hq gate (st, bk, nu) i).2.1) gate ((hrs nS nB hq gate (st, bk, nu) i).2.2))) → va_S A s.heap H locs → lv_has ls 2 [(0, .ref h), (1, .int (nI (i + 1)))] → W p l e ({ frames := 6, cells := 10, slots := 60, locals := 180 } : Room) s m ([.ref h] : List Value).toArray below meth c H locs 10 60 (MQ below (xQ D A (fun _ : (Nat → Nat) × TS => some (.int (lastN nS nB hq gate (st, bk, nu) 480 0))) (fun _ => True) (fun q => xw cy h ad nS nB st bk gate nu (q.1 0) (tw cy q.1 nS nB q.2.1 q.2.2.1 gate q.2.2.2))) ([.ref h] : List Value).toArray s 10 60 A) (F0 m 13 ls []) := by
    intro n
    induction n with
    | zero =>
      intro i  H locs ls hns hinv hP hD hS hl
      have hii : i = 480 := by omega
      refine lv_iload_n hx hb dX3_lasts_13 rfl (lv_at hl 1 rfl) ?_
      refine lv_sipush (v := 480) hx hb dX3_lasts_14 (by decide) ?_
      refine lv_icmp_gt (tgt := 38) hx hb dX3_lasts_17 (by decide) (fun _ => ?_) (fun h => absurd (by rw [hii]; decide) h)
      refine lv_iconst (v := (-1)) hx hb dX3_lasts_38 (by decide) ?_
      exact xri (a2, (hrs nS nB hq gate (st, bk, nu) i)) hx hb hr hlocks hS (Nat.le_of_ble_eq_true rfl) (Nat.le_of_ble_eq_true rfl) dX3_lasts_39 hP hD (by show some (Value.int (lastN nS nB hq gate (st, bk, nu) 480 0)) = _; rw [hinv]; rfl) trivial
    | succ n ih =>
      intro i  H locs ls hns hinv hP hD hS hl
      have hlt : i < 480 := by omega
      refine lv_iload_n hx hb dX3_lasts_13 rfl (lv_at hl 1 rfl) ?_
      refine lv_sipush (v := 480) hx hb dX3_lasts_14 (by decide) ?_
      refine lv_icmp_gt (tgt := 38) hx hb dX3_lasts_17 (by decide) (fun h => absurd h (fun z => absurd z (nI_nlt (b := i + 1) (a := 480) (by omega) (by decide)))) (fun _ => ?_)
      refine lv_aload_n hx hb dX3_lasts_20 rfl (lv_at hl 0 rfl) ?_
      refine va_get (D := D) (ci := 3) (v := .ref (a2 0)) (C := RX3) (T := TX3) (N := 2) hx hb hts hinX3 hown hK.1 hP 0 rfl rfl 1 (by decide) (hts (.fieldLink RX3 16 "LoafMarks" "trial" "LLoafMarks$Town;") (List.mem_of_getElem? (i := 1) rfl)) (fun _ h9 => h9) rfl dX3_lasts_21 ?_
      refine xcV (As := []) (rest := []) ⟨hx, hb, hml, hown, hts⟩ (c_X2_goThroughHour l D cy a2 nS nB (hrs nS nB hq gate (st, bk, nu) i) gate (hq + i) ((hq + i) % 24) (hrs_hour nS nB hq gate (st, bk, nu) eh i) (by omega) rfl hcS hcB (fun j hj => by rw [hrs_of]; exact hof j hj)) (cwV 0 hts gX3_lasts_X2_goThroughHour rfl rfl rfl (by decide +kernel) ⟨Nat.le_of_ble_eq_true rfl, Nat.le_of_ble_eq_true rfl⟩) hK hP hD hS hA rfl rfl rfl (xE_trial) rfl hl.1 rfl (Nat.le_of_ble_eq_true rfl) dX3_lasts_24 ⟨Nat.le_of_ble_eq_true rfl, Nat.le_of_ble_eq_true rfl⟩ (fun _ H locs _ hP hD hS => ?_)
      have hP : va_P D vwCl (xw cy h ad nS nB st bk gate nu (a2 0) (tw cy a2 nS nB ((hrs nS nB hq gate (st, bk, nu) (i + 1)).1) ((hrs nS nB hq gate (st, bk, nu) (i + 1)).2.1) gate ((hrs nS nB hq gate (st, bk, nu) (i + 1)).2.2))) H := hP
      have hD : va_D A (xw cy h ad nS nB st bk gate nu (a2 0) (tw cy a2 nS nB ((hrs nS nB hq gate (st, bk, nu) (i + 1)).1) ((hrs nS nB hq gate (st, bk, nu) (i + 1)).2.1) gate ((hrs nS nB hq gate (st, bk, nu) (i + 1)).2.2))) := hD
      refine W.eq (g2 := F0 m 27 ls [.int (hUnfed nS nB ((hq + i) % 24) gate (hrs nS nB hq gate (st, bk, nu) i))]) rfl ?_
      refine lv_if_le (tgt := 32) hx hb dX3_lasts_27 (by decide) (fun c27 => ?_) (fun c27 => ?_)
      · have hnext : lastN nS nB hq gate (st, bk, nu) 480 0 = lastN nS nB hq gate (st, bk, nu) n (i + 1) := hinv.trans (if_neg (Int32.not_lt.mpr c27))
        refine lv_iinc (v := (nI (i + 1 + 1))) (lv' := [(1, .int (nI (i + 1 + 1))), (0, .ref h)]) hx hb dX3_lasts_32 hl (k := 1) rfl ((nI_1 (i + 1))) (by decide) rfl (fun ls hl => ?_)
        refine lv_goto (tgt := 13) hx hb dX3_lasts_35 (by decide) ?_
        exact ih (i + 1)  _ _ _ (by omega) hnext hP hD hS (lv_sub hl [1, 0] rfl)
      · refine lv_iload_n hx hb dX3_lasts_30 rfl (lv_at hl 1 rfl) ?_
        exact xri (a2, (hrs nS nB hq gate (st, bk, nu) (i + 1))) hx hb hr hlocks hS (Nat.le_of_ble_eq_true rfl) (Nat.le_of_ble_eq_true rfl) dX3_lasts_31 hP hD (by show some (Value.int (lastN nS nB hq gate (st, bk, nu) 480 0)) = _; rw [hinv]; exact congrArg (fun z => some (Value.int z)) (if_pos (Int32.not_le.mp c27))) trivial
  exact loop 480 0  _ _ _ (by omega) rfl hP hD hS (lv_sub hl [1, 0] rfl)

set_option maxHeartbeats 4000000 in
set_option maxRecDepth 100000 in
/-- foresee -/
theorem c_X3_foresee (l : Launch) (D : va_G) (cy : Nat → ClassId) (h : Nat) (ad av : Nat → Nat) (nS nB tS tB : Nat) (st bk ts tb : Nat → Iu) (gate nu tg tn : Iu) (hSM : tS ≤ nS) (hBM : tB ≤ nB) (hcS : nS ≤ 4) (hcB : nB ≤ 6) (hb7 : ∀ j, j < nB → bk j 7 = 0 ∨ bk j 7 = 1) (hq n k : Nat) (eh : nu 0 = nI hq) (hn1 : 1 ≤ n) (hn2 : n ≤ 240) (hh : hq + n < 2 ^ 31) (hk : k < 4) (hof : ∀ j, j < nB → ∃ i, i < nS ∧ bk j 0 = nI i) : xM l D cy yX3_foresee wsX3_foresee ({ frames := 6, cells := 10, slots := 60, locals := 180 } : Room) [.ref h, .int (nI n), .int (nI k)] (xw cy h ad nS nB st bk gate nu (av 0) (tw cy av tS tB ts tb tg tn)) (fun _ : (Nat → Nat) × TS => some (.int (fsF nS nB (unf nS nB hq gate (st, bk, nu) n) (hrs nS nB hq gate (st, bk, nu) n) k))) (fun _ => True) (fun q => xw cy h ad nS nB st bk gate nu (q.1 0) (tw cy q.1 nS nB q.2.1 q.2.2.1 gate q.2.2.2)) := by
  refine xM.of cX3_foresee 4 (some .int) RX3 (by decide +kernel) rfl rfl (Nat.le_of_ble_eq_true rfl) ?_
  intro p e s m below meth c A ls hx hb hr hts hown hlocks hml hin hK hA hP hD hS hl
  have hl : lv_has ls 4 [(0, .ref h), (1, .int (nI n)), (2, .int (nI k))] := hl
  have hinX3 : ∀ w ∈ wsX30, w ∈ wsX3_foresee := fun _ h => List.mem_cons_of_mem _ (List.mem_append_left _ (List.mem_append_left _ (List.mem_append_left _ (List.mem_append_left _ (List.mem_append_left _ (List.mem_append_right _ h))))))
  refine lv_iload_n hx hb dX3_foresee_0 rfl (lv_at hl 1 rfl) ?_
  refine lv_iconst (v := 1) hx hb dX3_foresee_1 (by decide) ?_
  refine lv_sipush (v := 240) hx hb dX3_foresee_2 (by decide) ?_
  refine xcS (As := [.int (nI n), .int 1, .int 240]) (rest := []) ⟨hx, hb, hml, hown, hts⟩ (c_X3_isWithin l D cy (nI n) 1 240) (va_cwS 3 hts gX3_foresee_X3_isWithin rfl rfl rfl (by decide +kernel) ⟨Nat.le_of_ble_eq_true rfl, Nat.le_of_ble_eq_true rfl⟩) hK hP hD hS hA (xE_nil) rfl hl.1 rfl (Nat.le_of_ble_eq_true rfl) dX3_foresee_5 ⟨Nat.le_of_ble_eq_true rfl, Nat.le_of_ble_eq_true rfl⟩ (fun _ H locs _ hP hD hS => ?_)
  have hP : va_P D vwCl (xw cy h ad nS nB st bk gate nu (av 0) (tw cy av tS tB ts tb tg tn)) H := hP
  have hD : va_D A (xw cy h ad nS nB st bk gate nu (av 0) (tw cy av tS tB ts tb tg tn)) := hD
  refine W.eq (g2 := F0 m 8 ls [.int (wi (nI n) 1 240)]) rfl ?_
  refine lv_if_ne (tgt := 21) hx hb dX3_foresee_8 (by decide) (fun _ => ?_) (fun z => absurd z (wi_ok ⟨nI_le (a := 1) (b := n) (by omega) (by omega), nI_le (a := n) (b := 240) (by omega) (by decide)⟩))
  refine lv_iload_n hx hb dX3_foresee_21 rfl (lv_at hl 2 rfl) ?_
  refine lv_iconst (v := 0) hx hb dX3_foresee_22 (by decide) ?_
  refine lv_iconst (v := 3) hx hb dX3_foresee_23 (by decide) ?_
  refine xcS (As := [.int (nI k), .int 0, .int 3]) (rest := []) ⟨hx, hb, hml, hown, hts⟩ (c_X3_isWithin l D cy (nI k) 0 3) (va_cwS 3 hts gX3_foresee_X3_isWithin rfl rfl rfl (by decide +kernel) ⟨Nat.le_of_ble_eq_true rfl, Nat.le_of_ble_eq_true rfl⟩) hK hP hD hS hA (xE_nil) rfl hl.1 rfl (Nat.le_of_ble_eq_true rfl) dX3_foresee_24 ⟨Nat.le_of_ble_eq_true rfl, Nat.le_of_ble_eq_true rfl⟩ (fun _ H locs _ hP hD hS => ?_)
  have hP : va_P D vwCl (xw cy h ad nS nB st bk gate nu (av 0) (tw cy av tS tB ts tb tg tn)) H := hP
  have hD : va_D A (xw cy h ad nS nB st bk gate nu (av 0) (tw cy av tS tB ts tb tg tn)) := hD
  refine W.eq (g2 := F0 m 27 ls [.int (wi (nI k) 0 3)]) rfl ?_
  refine lv_if_ne (tgt := 40) hx hb dX3_foresee_27 (by decide) (fun _ => ?_) (fun z => absurd z (wi_ok ⟨nI_pos' (n := k) (by omega), nI_le (a := k) (b := 3) (by omega) (by decide)⟩))
  refine lv_aload_n hx hb dX3_foresee_40 rfl (lv_at hl 0 rfl) ?_
  refine va_get (D := D) (ci := 3) (v := .ref (av 0)) (C := RX3) (T := TX3) (N := 2) hx hb hts hinX3 hown hK.1 hP 0 rfl rfl 1 (by decide) (hts (.fieldLink RX3 16 "LoafMarks" "trial" "LLoafMarks$Town;") (List.mem_of_getElem? (i := 5) rfl)) (fun _ h9 => h9) rfl dX3_foresee_41 ?_
  refine lv_aload_n hx hb dX3_foresee_44 rfl (lv_at hl 0 rfl) ?_
  refine va_get (D := D) (ci := 3) (v := .ref (ad 0)) (C := RX3) (T := TX3) (N := 2) hx hb hts hinX3 hown hK.1 hP 0 rfl rfl 0 (by decide) (hts (.fieldLink RX3 10 "LoafMarks" "town" "LLoafMarks$Town;") (List.mem_of_getElem? (i := 6) rfl)) (fun _ h9 => h9) rfl dX3_foresee_45 ?_
  refine xcV (As := [.ref (ad 0)]) (rest := []) ⟨hx, hb, hml, hown, hts⟩ (c_X2_becomeLike l D cy av ad tS tB nS nB ts tb st bk tg tn gate nu hSM hcS hBM hcB hb7) (cwV 1 hts gX3_foresee_X2_becomeLike rfl rfl rfl (by decide +kernel) ⟨Nat.le_of_ble_eq_true rfl, Nat.le_of_ble_eq_true rfl⟩) hK hP hD hS hA rfl rfl rfl (xE_both) rfl hl.1 rfl (Nat.le_of_ble_eq_true rfl) dX3_foresee_48 ⟨Nat.le_of_ble_eq_true rfl, Nat.le_of_ble_eq_true rfl⟩ (fun a2 H locs ha2 hP hD hS => ?_)
  have hP : va_P D vwCl (xw cy h ad nS nB st bk gate nu (av 0) (tw cy a2 nS nB st bk gate nu)) H := hP
  have hD : va_D A (xw cy h ad nS nB st bk gate nu (av 0) (tw cy a2 nS nB st bk gate nu)) := hD
  refine W.eq (g2 := F0 m 51 ls []) rfl ?_
  have e0 : av 0 = a2 0 := (ha2 0 (by decide)).symm
  rw [e0] at hP hD
  refine lv_aload_n hx hb dX3_foresee_51 rfl (lv_at hl 0 rfl) ?_
  refine va_get (D := D) (ci := 3) (v := .ref (a2 0)) (C := RX3) (T := TX3) (N := 2) hx hb hts hinX3 hown hK.1 hP 0 rfl rfl 1 (by decide) (hts (.fieldLink RX3 16 "LoafMarks" "trial" "LLoafMarks$Town;") (List.mem_of_getElem? (i := 5) rfl)) (fun _ h9 => h9) rfl dX3_foresee_52 ?_
  refine lv_iload_n hx hb dX3_foresee_55 rfl (lv_at hl 1 rfl) ?_
  refine xcV (As := [.int (nI n)]) (rest := []) ⟨hx, hb, hml, hown, hts⟩ (c_X2_goThrough l D cy a2 nS nB (st, bk, nu) gate hq n eh hh hcS hcB hof) (cwV 1 hts gX3_foresee_X2_goThrough rfl rfl rfl (by decide +kernel) ⟨Nat.le_of_ble_eq_true rfl, Nat.le_of_ble_eq_true rfl⟩) hK hP hD hS hA rfl rfl rfl (xE_trial) rfl hl.1 rfl (Nat.le_of_ble_eq_true rfl) dX3_foresee_56 ⟨Nat.le_of_ble_eq_true rfl, Nat.le_of_ble_eq_true rfl⟩ (fun _ H locs _ hP hD hS => ?_)
  have hP : va_P D vwCl (xw cy h ad nS nB st bk gate nu (a2 0) (tw cy a2 nS nB ((hrs nS nB hq gate (st, bk, nu) n).1) ((hrs nS nB hq gate (st, bk, nu) n).2.1) gate ((hrs nS nB hq gate (st, bk, nu) n).2.2))) H := hP
  have hD : va_D A (xw cy h ad nS nB st bk gate nu (a2 0) (tw cy a2 nS nB ((hrs nS nB hq gate (st, bk, nu) n).1) ((hrs nS nB hq gate (st, bk, nu) n).2.1) gate ((hrs nS nB hq gate (st, bk, nu) n).2.2))) := hD
  refine W.eq (g2 := F0 m 59 ls [.int (unf nS nB hq gate (st, bk, nu) n)]) rfl ?_
  refine lv_istore_n (lv' := [(3, .int (unf nS nB hq gate (st, bk, nu) n)), (0, .ref h), (1, .int (nI n)), (2, .int (nI k))]) hx hb dX3_foresee_59 rfl hl (by decide) rfl (fun ls hl => ?_)
  refine lv_iload_n hx hb dX3_foresee_60 rfl (lv_at hl 3 rfl) ?_
  have hcase : k = 0 ∨ k = 1 ∨ k = 2 ∨ k = 3 := by omega
  rcases hcase with rfl | rfl | rfl | rfl
  · refine lv_tableIn (off := 27) (tgt := 88) hx hb dX3_foresee_61 (by decide) (by decide) (by rfl) (by decide) ?_
    refine lv_iload_n hx hb dX3_foresee_88 rfl (lv_at hl 0 rfl) ?_
    exact xri (a2, (hrs nS nB hq gate (st, bk, nu) n)) hx hb hr hlocks hS (Nat.le_of_ble_eq_true rfl) (Nat.le_of_ble_eq_true rfl) dX3_foresee_89 hP hD rfl trivial
  · refine lv_tableIn (off := 29) (tgt := 90) hx hb dX3_foresee_61 (by decide) (by decide) (by rfl) (by decide) ?_
    refine lv_aload_n hx hb dX3_foresee_90 rfl (lv_at hl 1 rfl) ?_
    refine va_get (D := D) (ci := 3) (v := .ref (a2 0)) (C := RX3) (T := TX3) (N := 2) hx hb hts hinX3 hown hK.1 hP 0 rfl rfl 1 (by decide) (hts (.fieldLink RX3 16 "LoafMarks" "trial" "LLoafMarks$Town;") (List.mem_of_getElem? (i := 5) rfl)) (fun _ h9 => h9) rfl dX3_foresee_91 ?_
    refine xcV (As := []) (rest := []) ⟨hx, hb, hml, hown, hts⟩ (c_X2_flourOfAll l D cy a2 nS nB ((hrs nS nB hq gate (st, bk, nu) n).1) ((hrs nS nB hq gate (st, bk, nu) n).2.1) gate ((hrs nS nB hq gate (st, bk, nu) n).2.2) hcS) (cwV 0 hts gX3_foresee_X2_flourOfAll rfl rfl rfl (by decide +kernel) ⟨Nat.le_of_ble_eq_true rfl, Nat.le_of_ble_eq_true rfl⟩) hK hP hD hS hA rfl rfl rfl (xE_trial) rfl hl.1 rfl (Nat.le_of_ble_eq_true rfl) dX3_foresee_94 ⟨Nat.le_of_ble_eq_true rfl, Nat.le_of_ble_eq_true rfl⟩ (fun _ H locs _ hP hD hS => ?_)
    have hP : va_P D vwCl (xw cy h ad nS nB st bk gate nu (a2 0) (tw cy a2 nS nB ((hrs nS nB hq gate (st, bk, nu) n).1) ((hrs nS nB hq gate (st, bk, nu) n).2.1) gate ((hrs nS nB hq gate (st, bk, nu) n).2.2))) H := hP
    have hD : va_D A (xw cy h ad nS nB st bk gate nu (a2 0) (tw cy a2 nS nB ((hrs nS nB hq gate (st, bk, nu) n).1) ((hrs nS nB hq gate (st, bk, nu) n).2.1) gate ((hrs nS nB hq gate (st, bk, nu) n).2.2))) := hD
    refine W.eq (g2 := F0 m 97 ls [.int (sm (fun i => (hrs nS nB hq gate (st, bk, nu) n).1 i 0) nS)]) rfl ?_
    exact xri (a2, (hrs nS nB hq gate (st, bk, nu) n)) hx hb hr hlocks hS (Nat.le_of_ble_eq_true rfl) (Nat.le_of_ble_eq_true rfl) dX3_foresee_97 hP hD rfl trivial
  · refine lv_tableIn (off := 37) (tgt := 98) hx hb dX3_foresee_61 (by decide) (by decide) (by rfl) (by decide) ?_
    refine lv_aload_n hx hb dX3_foresee_98 rfl (lv_at hl 1 rfl) ?_
    refine va_get (D := D) (ci := 3) (v := .ref (a2 0)) (C := RX3) (T := TX3) (N := 2) hx hb hts hinX3 hown hK.1 hP 0 rfl rfl 1 (by decide) (hts (.fieldLink RX3 16 "LoafMarks" "trial" "LLoafMarks$Town;") (List.mem_of_getElem? (i := 5) rfl)) (fun _ h9 => h9) rfl dX3_foresee_99 ?_
    refine xcV (As := []) (rest := []) ⟨hx, hb, hml, hown, hts⟩ (c_X2_loavesOfAll l D cy a2 nS nB ((hrs nS nB hq gate (st, bk, nu) n).1) ((hrs nS nB hq gate (st, bk, nu) n).2.1) gate ((hrs nS nB hq gate (st, bk, nu) n).2.2) hcB) (cwV 0 hts gX3_foresee_X2_loavesOfAll rfl rfl rfl (by decide +kernel) ⟨Nat.le_of_ble_eq_true rfl, Nat.le_of_ble_eq_true rfl⟩) hK hP hD hS hA rfl rfl rfl (xE_trial) rfl hl.1 rfl (Nat.le_of_ble_eq_true rfl) dX3_foresee_102 ⟨Nat.le_of_ble_eq_true rfl, Nat.le_of_ble_eq_true rfl⟩ (fun _ H locs _ hP hD hS => ?_)
    have hP : va_P D vwCl (xw cy h ad nS nB st bk gate nu (a2 0) (tw cy a2 nS nB ((hrs nS nB hq gate (st, bk, nu) n).1) ((hrs nS nB hq gate (st, bk, nu) n).2.1) gate ((hrs nS nB hq gate (st, bk, nu) n).2.2))) H := hP
    have hD : va_D A (xw cy h ad nS nB st bk gate nu (a2 0) (tw cy a2 nS nB ((hrs nS nB hq gate (st, bk, nu) n).1) ((hrs nS nB hq gate (st, bk, nu) n).2.1) gate ((hrs nS nB hq gate (st, bk, nu) n).2.2))) := hD
    refine W.eq (g2 := F0 m 105 ls [.int (sm (fun i => (hrs nS nB hq gate (st, bk, nu) n).2.1 i 5) nB)]) rfl ?_
    exact xri (a2, (hrs nS nB hq gate (st, bk, nu) n)) hx hb hr hlocks hS (Nat.le_of_ble_eq_true rfl) (Nat.le_of_ble_eq_true rfl) dX3_foresee_105 hP hD rfl trivial
  · refine lv_tableOut (tgt := 106) hx hb dX3_foresee_61 (by decide) (by decide) ?_
    refine lv_aload_n hx hb dX3_foresee_106 rfl (lv_at hl 1 rfl) ?_
    refine va_get (D := D) (ci := 3) (v := .ref (a2 0)) (C := RX3) (T := TX3) (N := 2) hx hb hts hinX3 hown hK.1 hP 0 rfl rfl 1 (by decide) (hts (.fieldLink RX3 16 "LoafMarks" "trial" "LLoafMarks$Town;") (List.mem_of_getElem? (i := 5) rfl)) (fun _ h9 => h9) rfl dX3_foresee_107 ?_
    refine xcV (As := []) (rest := []) ⟨hx, hb, hml, hown, hts⟩ (c_X2_weevilsOfAll l D cy a2 nS nB ((hrs nS nB hq gate (st, bk, nu) n).1) ((hrs nS nB hq gate (st, bk, nu) n).2.1) gate ((hrs nS nB hq gate (st, bk, nu) n).2.2) hcS) (cwV 0 hts gX3_foresee_X2_weevilsOfAll rfl rfl rfl (by decide +kernel) ⟨Nat.le_of_ble_eq_true rfl, Nat.le_of_ble_eq_true rfl⟩) hK hP hD hS hA rfl rfl rfl (xE_trial) rfl hl.1 rfl (Nat.le_of_ble_eq_true rfl) dX3_foresee_110 ⟨Nat.le_of_ble_eq_true rfl, Nat.le_of_ble_eq_true rfl⟩ (fun _ H locs _ hP hD hS => ?_)
    have hP : va_P D vwCl (xw cy h ad nS nB st bk gate nu (a2 0) (tw cy a2 nS nB ((hrs nS nB hq gate (st, bk, nu) n).1) ((hrs nS nB hq gate (st, bk, nu) n).2.1) gate ((hrs nS nB hq gate (st, bk, nu) n).2.2))) H := hP
    have hD : va_D A (xw cy h ad nS nB st bk gate nu (a2 0) (tw cy a2 nS nB ((hrs nS nB hq gate (st, bk, nu) n).1) ((hrs nS nB hq gate (st, bk, nu) n).2.1) gate ((hrs nS nB hq gate (st, bk, nu) n).2.2))) := hD
    refine W.eq (g2 := F0 m 113 ls [.int (sm (fun i => (hrs nS nB hq gate (st, bk, nu) n).1 i 1) nS)]) rfl ?_
    exact xri (a2, (hrs nS nB hq gate (st, bk, nu) n)) hx hb hr hlocks hS (Nat.le_of_ble_eq_true rfl) (Nat.le_of_ble_eq_true rfl) dX3_foresee_113 hP hD rfl trivial

set_option maxHeartbeats 4000000 in
set_option maxRecDepth 100000 in
theorem c_X3_foresee_1 (l : Launch) (hst : l.stackTraces = false) (D : va_G) (cy : Nat → ClassId) (sa : Nat → Nat) (h : Nat) (ad : Nat → Nat) (nS nB : Nat) (st bk : Nat → Iu) (gate nu : Iu) (bt : Nat) (wt : va_W) (p0 p1 : Int32) (h1 : ¬ ((1 : Int32) ≤ p0 ∧ p0 ≤ 240)) : xT l D cy sa yX3_foresee wsX3_foresee ({ frames := 6, cells := 10, slots := 60, locals := 180 } : Room) [.ref h, .int p0, .int p1] (xw cy h ad nS nB st bk gate nu bt wt) E_A := by
  refine xT.of cX3_foresee 4 (some .int) RX3 (by decide +kernel) rfl rfl (Nat.le_of_ble_eq_true rfl) ?_
  intro p e s m below meth c A ls hx hb hr hts hown hlocks hml hin hK hA hP hD hS hV hZ htb hl
  have hl : lv_has ls 4 [(0, .ref h), (1, .int p0), (2, .int p1)] := hl
  refine lv_iload_n hx hb dX3_foresee_0 rfl (lv_at hl 1 rfl) ?_
  refine lv_iconst (v := 1) hx hb dX3_foresee_1 (by decide) ?_
  refine lv_sipush (v := 240) hx hb dX3_foresee_2 (by decide) ?_
  refine xcS (As := [.int p0, .int 1, .int 240]) (rest := []) ⟨hx, hb, hml, hown, hts⟩ (c_X3_isWithin l D cy p0 1 240) (va_cwS 3 hts gX3_foresee_X3_isWithin rfl rfl rfl (by decide +kernel) ⟨Nat.le_of_ble_eq_true rfl, Nat.le_of_ble_eq_true rfl⟩) hK hP hD hS hA (xE_nil) rfl hl.1 rfl (Nat.le_of_ble_eq_true rfl) dX3_foresee_5 ⟨Nat.le_of_ble_eq_true rfl, Nat.le_of_ble_eq_true rfl⟩ (fun _ H locs _ hP hD hS => ?_)
  have hP : va_P D vwCl (xw cy h ad nS nB st bk gate nu bt wt) H := hP
  have hD : va_D A (xw cy h ad nS nB st bk gate nu bt wt) := hD
  refine W.eq (g2 := F0 m 8 ls [.int (wi p0 1 240)]) rfl ?_
  refine lv_if_ne (tgt := 21) hx hb dX3_foresee_8 (by decide) (fun z => absurd (wi_no h1) z) (fun _ => ?_)
  exact xthrow (cls := E_A) (text := "hours is not 1 to 240") hx hb hst hown (by decide +kernel) (hts (.classLink RX3 23 "java/lang/IllegalArgumentException") (List.mem_of_getElem? (i := 1) rfl)) (hts (.initialized "java/lang/IllegalArgumentException") (List.mem_of_getElem? (i := 2) rfl)) (List.mem_of_getElem? (i := 17) rfl) hV hZ (fun w h => hts w (List.mem_cons_of_mem _ (List.mem_append_left _ (List.mem_append_right _ h)))) xcovA xotA hS hP (hl.1.trans hml.symm) dX3_foresee_11 dX3_foresee_14 dX3_foresee_15 dX3_foresee_17 dX3_foresee_20 htb hlocks (Nat.le_of_ble_eq_true rfl) (Nat.le_of_ble_eq_true rfl) (Nat.le_of_ble_eq_true rfl) (Nat.le_of_ble_eq_true rfl) (Nat.le_of_ble_eq_true rfl) (Nat.le_of_ble_eq_true rfl)

set_option maxHeartbeats 4000000 in
set_option maxRecDepth 100000 in
theorem c_X3_foresee_2 (l : Launch) (hst : l.stackTraces = false) (D : va_G) (cy : Nat → ClassId) (sa : Nat → Nat) (h : Nat) (ad : Nat → Nat) (nS nB : Nat) (st bk : Nat → Iu) (gate nu : Iu) (bt : Nat) (wt : va_W) (p0 p1 : Int32) (h1 : (1 : Int32) ≤ p0 ∧ p0 ≤ 240) (h2 : ¬ ((0 : Int32) ≤ p1 ∧ p1 ≤ 3)) : xT l D cy sa yX3_foresee wsX3_foresee ({ frames := 6, cells := 10, slots := 60, locals := 180 } : Room) [.ref h, .int p0, .int p1] (xw cy h ad nS nB st bk gate nu bt wt) E_I := by
  refine xT.of cX3_foresee 4 (some .int) RX3 (by decide +kernel) rfl rfl (Nat.le_of_ble_eq_true rfl) ?_
  intro p e s m below meth c A ls hx hb hr hts hown hlocks hml hin hK hA hP hD hS hV hZ htb hl
  have hl : lv_has ls 4 [(0, .ref h), (1, .int p0), (2, .int p1)] := hl
  refine lv_iload_n hx hb dX3_foresee_0 rfl (lv_at hl 1 rfl) ?_
  refine lv_iconst (v := 1) hx hb dX3_foresee_1 (by decide) ?_
  refine lv_sipush (v := 240) hx hb dX3_foresee_2 (by decide) ?_
  refine xcS (As := [.int p0, .int 1, .int 240]) (rest := []) ⟨hx, hb, hml, hown, hts⟩ (c_X3_isWithin l D cy p0 1 240) (va_cwS 3 hts gX3_foresee_X3_isWithin rfl rfl rfl (by decide +kernel) ⟨Nat.le_of_ble_eq_true rfl, Nat.le_of_ble_eq_true rfl⟩) hK hP hD hS hA (xE_nil) rfl hl.1 rfl (Nat.le_of_ble_eq_true rfl) dX3_foresee_5 ⟨Nat.le_of_ble_eq_true rfl, Nat.le_of_ble_eq_true rfl⟩ (fun _ H locs _ hP hD hS => ?_)
  have hP : va_P D vwCl (xw cy h ad nS nB st bk gate nu bt wt) H := hP
  have hD : va_D A (xw cy h ad nS nB st bk gate nu bt wt) := hD
  refine W.eq (g2 := F0 m 8 ls [.int (wi p0 1 240)]) rfl ?_
  refine lv_if_ne (tgt := 21) hx hb dX3_foresee_8 (by decide) (fun _ => ?_) (fun z => absurd z (wi_ok h1))
  refine lv_iload_n hx hb dX3_foresee_21 rfl (lv_at hl 2 rfl) ?_
  refine lv_iconst (v := 0) hx hb dX3_foresee_22 (by decide) ?_
  refine lv_iconst (v := 3) hx hb dX3_foresee_23 (by decide) ?_
  refine xcS (As := [.int p1, .int 0, .int 3]) (rest := []) ⟨hx, hb, hml, hown, hts⟩ (c_X3_isWithin l D cy p1 0 3) (va_cwS 3 hts gX3_foresee_X3_isWithin rfl rfl rfl (by decide +kernel) ⟨Nat.le_of_ble_eq_true rfl, Nat.le_of_ble_eq_true rfl⟩) hK hP hD hS hA (xE_nil) rfl hl.1 rfl (Nat.le_of_ble_eq_true rfl) dX3_foresee_24 ⟨Nat.le_of_ble_eq_true rfl, Nat.le_of_ble_eq_true rfl⟩ (fun _ H locs _ hP hD hS => ?_)
  have hP : va_P D vwCl (xw cy h ad nS nB st bk gate nu bt wt) H := hP
  have hD : va_D A (xw cy h ad nS nB st bk gate nu bt wt) := hD
  refine W.eq (g2 := F0 m 27 ls [.int (wi p1 0 3)]) rfl ?_
  refine lv_if_ne (tgt := 40) hx hb dX3_foresee_27 (by decide) (fun z => absurd (wi_no h2) z) (fun _ => ?_)
  exact xthrow (cls := E_I) (text := "what is not 0 to 3") hx hb hst hown (by decide +kernel) (hts (.classLink RX3 34 "java/lang/IndexOutOfBoundsException") (List.mem_of_getElem? (i := 3) rfl)) (hts (.initialized "java/lang/IndexOutOfBoundsException") (List.mem_of_getElem? (i := 4) rfl)) (List.mem_of_getElem? (i := 14) rfl) hV hZ (fun w h => hts w (List.mem_cons_of_mem _ (List.mem_append_right _ h))) xcovI xotI hS hP (hl.1.trans hml.symm) dX3_foresee_30 dX3_foresee_33 dX3_foresee_34 dX3_foresee_36 dX3_foresee_39 htb hlocks (Nat.le_of_ble_eq_true rfl) (Nat.le_of_ble_eq_true rfl) (Nat.le_of_ble_eq_true rfl) (Nat.le_of_ble_eq_true rfl) (Nat.le_of_ble_eq_true rfl) (Nat.le_of_ble_eq_true rfl)
end
section
/-! ===== LoafMarks: its start, share (laid by gen24.py) ===== -/
/-- a contract with one more premise on the state -/
def xMx {S : Type} (X : State → Prop) (l : Launch) (D : va_G) (cy : Nat → ClassId) (y : MethodName) (wd : List Cond) (rm : Room) (av : List Value) (w0 : va_W) (rv : S → Option Value) (P : S → Prop) (w1 : S → va_W) : Prop :=
  ∀ sz : Nat, Met l y wd rm (va_Pc av (fun U => xPre D cy w0 sz U ∧ X U)) (xQ D (va_A w0 sz) rv P w1) rm.cells rm.slots (va_A w0 sz)
theorem xMx.of {S : Type} {X : State → Prop} {l : Launch} {D : va_G} {cy : Nat → ClassId} {y : MethodName} {wd wd' : List Cond} {rm : Room} {av : List Value} {w0 : va_W} {rv : S → Option Value} {P : S → Prop} {w1 : S → va_W} (cc : ByteArray) (maxL : Nat) (ret : Option FieldType) (own : String)
    (hy : plainName y.cls = true) (ho : y.cls = own) (hw : wd = .code y cc maxL ret :: wd') (hlen : (lg_sl av).length ≤ maxL)
    (body : ∀ (p : Program) (e : Env) (s : State) (m : MethodId) (below : List Frame) (meth : Method) (c : Code) (A : Nat → Prop) (ls : Array Slot), p.tables.exec = Jvm.exec → c.code = cc → meth.sig.returnType = ret → (∀ w ∈ wd, w.before av.toArray s = true) → s.vm.findClass own = some m.cls → meth.locks = false → c.maxLocals = maxL → meth.name = y.name → XK D cy s →
      (∀ q : Nat, s.heap.size ≤ q → A q) → va_P D vwCl w0 s.heap → va_D A w0 → va_S A s.heap s.heap [] → X s → lv_has ls maxL (lv_args 0 av) →
      W p l e rm s m av.toArray below meth c s.heap [] 0 0 (MQ below (xQ D A rv P w1) av.toArray s rm.cells rm.slots A) (F0 m 0 ls [])) : xMx X l D cy y wd rm av w0 rv P w1 := by
  intro sz
  refine Met.ofW (cc := cc) (maxL := maxL) (ret := ret) hy hw ?_
  intro p e s m args below meth c s₁ B hml hv
  obtain ⟨rfl, ⟨hsz, hP, hK, hD0⟩, hX⟩ := hv
  subst hsz
  have hts := atoms_spec (ws := wd) B.pre
  have hl := lv_entry av hlen
  rw [lg_entry_eq]
  exact body p e s m below meth c (va_A w0 s.heap.size) _ B.exec B.bytes B.returns hts (by rw [← ho]; exact findClass_of_methodNamed B.named) B.notSynchronized hml (name_of_methodNamed B.named B.method).1 hK (fun q h => Or.inr h) hP hD0.self va_S.rf hX hl
section XNEST
variable {S : Type} {p : Program} {l : Launch} {e : Env} {R : Room} {s : State} {m : MethodId} {args : Array Value} {below : List Frame} {meth : Method} {c : Code} {H H0 : Heap} {locs : List Loc} {cells slots : Nat} {Q : State → Prop} {cc : ByteArray} {pc : Nat} {ls : Array Slot} {D : va_G} {cy : Nat → ClassId} {A : Nat → Prop} {rv : S → Option Value} {P : S → Prop} {w0 ws : va_W} {w1 out : S → va_W} {rm : Room} {Ts wd : List Cond} {own host : String} {y : MethodName} {nL maxL index n : Nat} {bytes : ByteArray} {b : Addr} {As rest st : List Value}
theorem xcIN (F : CallFix p m c cc nL s args Ts own) (hM : xM l D cy y wd rm (.ref b :: As) w0 rv P w1) (cw : va_CN R s args own index y host bytes maxL none wd rm rm.cells rm.slots n ∧ y.name = "<init>" ∧ (Cond.instanceMethod y).before args s = true)
    (hK : XK D cy s) (hP : va_P D vwCl ws H) (hD : va_D A ws) (hS : va_S A H0 H locs) (hA : ∀ q : Nat, H0.size ≤ q → A q) (hE : xE ws w0 w1 out)
    (hn : As.length = n) (hsize : ls.size = nL) (hst : st = As.reverse ++ .ref b :: rest) (hrest : (rest.map fun v => v.category).sum ≤ 8) (hdg : decode cc pc = .ok (.invokespecial index, 3)) (hf : cells + rm.cells ≤ R.cells ∧ slots + rm.slots ≤ R.slots)
    (kk : ∀ (u : S) (H1 : Heap) (locs1 : List Loc), P u → va_P D vwCl (out u) H1 → va_D A (out u) → va_S A H0 H1 locs1 → W p l e R s m args below meth c H1 locs1 (cells + rm.cells) (slots + rm.slots) Q (F0 m (pc + 3) ls ((rv u).toList ++ rest))) : W p l e R s m args below meth c H locs cells slots Q (F0 m pc ls st) := by
  subst hst
  have hPw : va_P D vwCl w0 H := by
    obtain ⟨wr, g1, -⟩ := hE
    exact (xP_app.mp (xP_perm g1 hP)).1
  have hDw : va_D (fun _ => True) w0 := by
    obtain ⟨wr, g1, -⟩ := hE
    have h := xD_iff.mp (xD_perm g1 hD)
    rw [List.map_append, List.nodup_append] at h
    exact xD_iff.mpr ⟨h.1.1, fun _ _ => trivial⟩
  refine xgo (va_runIN (As := As) (rest := rest) F (hM H.size) cw ⟨xblind, fun U hU hW => ⟨rfl, by rw [hU], by rw [hU]; exact hPw, hK.warmed hW, hDw⟩⟩ rfl hn hsize rfl (lv_room hrest) hdg hf) hP hD hS hA hE kk
end XNEST
set_option maxHeartbeats 4000000 in
set_option maxRecDepth 100000 in
/-- LoafMarks() -/
theorem c_X3_init (l : Launch) (D : va_G) (cy : Nat → ClassId) (h : Nat) : xMx (va_Nw (.methodLinkNest RX3 9 yX2_init "LoafMarks")) l D cy yX3_init wsX3_init ({ frames := 2, cells := 8, slots := 86, locals := 40 } : Room) [.ref h] ([(h, .inr (3, [.null, .null]))]) (fun _ : (Nat → Nat) × (Nat → Nat) => none) (fun _ => True) (fun q => xw cy h q.1 0 0 (fun _ _ => 0) (fun _ _ => 0) (fun _ => 0) nu0 (q.2 0) (tw cy q.2 0 0 (fun _ _ => 0) (fun _ _ => 0) (fun _ => 0) nu0)) := by
  refine xMx.of cX3_init 1 none RX3 (by decide +kernel) rfl rfl (Nat.le_of_ble_eq_true rfl) ?_
  intro p e s m below meth c A ls hx hb hr hts hown hlocks hml hin hK hA hP hD hS hN hl
  have hl : lv_has ls 1 [(0, .ref h)] := hl
  have hinX2 : ∀ w ∈ wsX20, w ∈ wsX3_init := fun _ h => List.mem_cons_of_mem _ (List.mem_append_left _ (List.mem_append_right _ h))
  have hinX3 : ∀ w ∈ wsX30, w ∈ wsX3_init := fun _ h => List.mem_cons_of_mem _ (List.mem_append_right _ h)
  refine lv_aload_n hx hb dX3_init_0 rfl (lv_at hl 0 rfl) ?_
  refine W.objInit hx hb hown (hts (.methodLink RX3 1 objectInit) (List.mem_of_getElem? (i := 1) rfl)) (hts (.instanceMethod objectInit) (List.mem_of_getElem? (i := 2) rfl)) (hts (.code objectInit ⟨#[0xb1]⟩ 1 none) (List.mem_of_getElem? (i := 3) rfl)) rfl (by rw [hml]; exact hl.1) rfl dX3_init_1 (Nat.le_of_ble_eq_true rfl) (Nat.le_of_ble_eq_true rfl) ?_
  refine W.eq (g2 := F0 m 4 ls []) rfl ?_
  refine lv_aload_n hx hb dX3_init_4 rfl (lv_at hl 0 rfl) ?_
  refine va_new (ci := 2) (fs := [.null, .null, .null, .int 0, .int 0, .int 0, .int 0, .int 0, .int 0]) (C := RX2) (T := TX2) (N := 9) hx hb hts hinX2 tyX2 tyX2_ok hown (hts (.classLink RX3 7 RX2) (List.mem_of_getElem? (i := 4) rfl)) (hts (.instantiable RX2 9) (List.mem_of_getElem? (i := 5) rfl)) (hts (.initialized RX2) (List.mem_of_getElem? (i := 6) rfl)) hK.1 hP hD hS hA rfl (fun j hj => by rcases (show j = 0 ∨ j = 1 ∨ j = 2 ∨ j = 3 ∨ j = 4 ∨ j = 5 ∨ j = 6 ∨ j = 7 ∨ j = 8 by omega) with rfl | rfl | rfl | rfl | rfl | rfl | rfl | rfl | rfl <;> rfl) (Nat.le_of_ble_eq_true rfl) (Nat.le_of_ble_eq_true rfl) dX3_init_5 (fun q5 H hP hD hS => ?_)
  have hP : va_P D vwCl (([(h, .inr (3, [.null, .null]))]) ++ ([(q5, .inr (2, [.null, .null, .null, .int 0, .int 0, .int 0, .int 0, .int 0, .int 0]))])) H := hP
  have hD : va_D A (([(h, .inr (3, [.null, .null]))]) ++ ([(q5, .inr (2, [.null, .null, .null, .int 0, .int 0, .int 0, .int 0, .int 0, .int 0]))])) := hD
  refine lv_dup hx hb dX3_init_8 rfl ?_
  refine xcIN (As := []) (rest := [.ref q5, .ref h]) ⟨hx, hb, hml, hown, hts⟩ (c_X2_init l D cy q5) (⟨va_cnB 0 hts gX3_init_X2_init_n9 rfl rfl rfl hN (hts (.initialized RX2) (List.mem_of_getElem? (i := 6) rfl)) (by decide +kernel) ⟨Nat.le_of_ble_eq_true rfl, Nat.le_of_ble_eq_true rfl⟩, rfl, (hts (.instanceMethod yX2_init) (List.mem_of_getElem? (i := 9) rfl))⟩) hK hP hD hS hA (xE_r) rfl hl.1 rfl (Nat.le_of_ble_eq_true rfl) dX3_init_9 ⟨Nat.le_of_ble_eq_true rfl, Nat.le_of_ble_eq_true rfl⟩ (fun a1 H locs hu hP hD hS => ?_)
  have hP : va_P D vwCl (([(h, .inr (3, [.null, .null]))]) ++ (tw cy a1 0 0 (fun _ _ => 0) (fun _ _ => 0) (fun _ => 0) nu0)) H := hP
  have hD : va_D A (([(h, .inr (3, [.null, .null]))]) ++ (tw cy a1 0 0 (fun _ _ => 0) (fun _ _ => 0) (fun _ => 0) nu0)) := hD
  refine W.eq (g2 := F0 m 12 ls [.ref (a1 0), .ref h]) (by first | (rw [hu]; done) | (rw [hu]; rfl)) ?_
  refine va_putF (D := D) (ci := 3) (v := .ref (a1 0)) (ty := .object "LoafMarks$Town") (C := RX3) (T := TX3) (N := 2) hx hb hts hinX3 tyX3 tyX3_ok nmX3 hown hK.1 hP hD hS 0 rfl rfl 0 (by decide) (hts (.fieldLink RX3 10 "LoafMarks" "town" "LLoafMarks$Town;") (List.mem_of_getElem? (i := 7) rfl)) (fun _ h9 => h9) rfl hin rfl (by decide +kernel) rfl rfl (Nat.le_of_ble_eq_true rfl) dX3_init_12 (fun H locs hP hD hS => ?_)
  have hP : va_P D vwCl (([(h, .inr (3, [.ref (a1 0), .null]))]) ++ (tw cy a1 0 0 (fun _ _ => 0) (fun _ _ => 0) (fun _ => 0) nu0)) H := hP
  have hD : va_D A (([(h, .inr (3, [.ref (a1 0), .null]))]) ++ (tw cy a1 0 0 (fun _ _ => 0) (fun _ _ => 0) (fun _ => 0) nu0)) := hD
  refine lv_aload_n hx hb dX3_init_15 rfl (lv_at hl 0 rfl) ?_
  refine va_new (ci := 2) (fs := [.null, .null, .null, .int 0, .int 0, .int 0, .int 0, .int 0, .int 0]) (C := RX2) (T := TX2) (N := 9) hx hb hts hinX2 tyX2 tyX2_ok hown (hts (.classLink RX3 7 RX2) (List.mem_of_getElem? (i := 4) rfl)) (hts (.instantiable RX2 9) (List.mem_of_getElem? (i := 5) rfl)) (hts (.initialized RX2) (List.mem_of_getElem? (i := 6) rfl)) hK.1 hP hD hS hA rfl (fun j hj => by rcases (show j = 0 ∨ j = 1 ∨ j = 2 ∨ j = 3 ∨ j = 4 ∨ j = 5 ∨ j = 6 ∨ j = 7 ∨ j = 8 by omega) with rfl | rfl | rfl | rfl | rfl | rfl | rfl | rfl | rfl <;> rfl) (Nat.le_of_ble_eq_true rfl) (Nat.le_of_ble_eq_true rfl) dX3_init_16 (fun q16 H hP hD hS => ?_)
  have hP : va_P D vwCl ((([(h, .inr (3, [.ref (a1 0), .null]))]) ++ (tw cy a1 0 0 (fun _ _ => 0) (fun _ _ => 0) (fun _ => 0) nu0)) ++ ([(q16, .inr (2, [.null, .null, .null, .int 0, .int 0, .int 0, .int 0, .int 0, .int 0]))])) H := hP
  have hD : va_D A ((([(h, .inr (3, [.ref (a1 0), .null]))]) ++ (tw cy a1 0 0 (fun _ _ => 0) (fun _ _ => 0) (fun _ => 0) nu0)) ++ ([(q16, .inr (2, [.null, .null, .null, .int 0, .int 0, .int 0, .int 0, .int 0, .int 0]))])) := hD
  refine lv_dup hx hb dX3_init_19 rfl ?_
  refine xcIN (As := []) (rest := [.ref q16, .ref h]) ⟨hx, hb, hml, hown, hts⟩ (c_X2_init l D cy q16) (⟨va_cnB 0 hts gX3_init_X2_init_n9 rfl rfl rfl hN (hts (.initialized RX2) (List.mem_of_getElem? (i := 6) rfl)) (by decide +kernel) ⟨Nat.le_of_ble_eq_true rfl, Nat.le_of_ble_eq_true rfl⟩, rfl, (hts (.instanceMethod yX2_init) (List.mem_of_getElem? (i := 9) rfl))⟩) hK hP hD hS hA (xE_r) rfl hl.1 rfl (Nat.le_of_ble_eq_true rfl) dX3_init_20 ⟨Nat.le_of_ble_eq_true rfl, Nat.le_of_ble_eq_true rfl⟩ (fun a2 H locs hu hP hD hS => ?_)
  have hP : va_P D vwCl ((([(h, .inr (3, [.ref (a1 0), .null]))]) ++ (tw cy a1 0 0 (fun _ _ => 0) (fun _ _ => 0) (fun _ => 0) nu0)) ++ (tw cy a2 0 0 (fun _ _ => 0) (fun _ _ => 0) (fun _ => 0) nu0)) H := hP
  have hD : va_D A ((([(h, .inr (3, [.ref (a1 0), .null]))]) ++ (tw cy a1 0 0 (fun _ _ => 0) (fun _ _ => 0) (fun _ => 0) nu0)) ++ (tw cy a2 0 0 (fun _ _ => 0) (fun _ _ => 0) (fun _ => 0) nu0)) := hD
  refine W.eq (g2 := F0 m 23 ls [.ref (a2 0), .ref h]) (by first | (rw [hu]; done) | (rw [hu]; rfl)) ?_
  refine va_putF (D := D) (ci := 3) (v := .ref (a2 0)) (ty := .object "LoafMarks$Town") (C := RX3) (T := TX3) (N := 2) hx hb hts hinX3 tyX3 tyX3_ok nmX3 hown hK.1 hP hD hS 0 rfl rfl 1 (by decide) (hts (.fieldLink RX3 16 "LoafMarks" "trial" "LLoafMarks$Town;") (List.mem_of_getElem? (i := 8) rfl)) (fun _ h9 => h9) rfl hin rfl (by decide +kernel) rfl rfl (Nat.le_of_ble_eq_true rfl) dX3_init_23 (fun H locs hP hD hS => ?_)
  have hP : va_P D vwCl ((([(h, .inr (3, [.ref (a1 0), .ref (a2 0)]))]) ++ (tw cy a1 0 0 (fun _ _ => 0) (fun _ _ => 0) (fun _ => 0) nu0)) ++ (tw cy a2 0 0 (fun _ _ => 0) (fun _ _ => 0) (fun _ => 0) nu0)) H := hP
  have hD : va_D A ((([(h, .inr (3, [.ref (a1 0), .ref (a2 0)]))]) ++ (tw cy a1 0 0 (fun _ _ => 0) (fun _ _ => 0) (fun _ => 0) nu0)) ++ (tw cy a2 0 0 (fun _ _ => 0) (fun _ _ => 0) (fun _ => 0) nu0)) := hD
  exact xrv (a1, a2) hx hb hr hlocks hS (Nat.le_of_ble_eq_true rfl) (Nat.le_of_ble_eq_true rfl) dX3_init_26 hP hD rfl trivial

/-- share's number: a quotient, or nothing sold -/
def shV (nu : Iu) : UInt64 := if nu 2 = 0 then FP.dconst0 else FP.ddiv (FP.i2d (nu 3)) (FP.i2d (nu 2))
def xMD {S : Type} (l : Launch) (D : va_G) (cy : Nat → ClassId) (y : MethodName) (wd : List Cond) (rm : Room) (av : List Value) (w0 : va_W) (rv : S → Option Value) (P : S → Prop) (w1 : S → va_W) : Prop :=
  ∀ sz : Nat, MetD lw_cs l y wd rm (va_Pc av (xPre D cy w0 sz)) (xQ D (va_A w0 sz) rv P w1) rm.cells rm.slots (va_A w0 sz)
theorem xMD.of {S : Type} {l : Launch} {D : va_G} {cy : Nat → ClassId} {y : MethodName} {wd wd' : List Cond} {rm : Room} {av : List Value} {w0 : va_W} {rv : S → Option Value} {P : S → Prop} {w1 : S → va_W} (cc : ByteArray) (maxL : Nat) (ret : Option FieldType) (own : String)
    (hy : plainName y.cls = true) (ho : y.cls = own) (hw : wd = .code y cc maxL ret :: wd') (hlen : (lg_sl av).length ≤ maxL)
    (body : ∀ (p : Program) (e : Env) (s : State) (m : MethodId) (below : List Frame) (meth : Method) (c : Code) (A : Nat → Prop) (ls : Array Slot), p.tables.exec = Jvm.exec → c.code = cc → meth.sig.returnType = ret → (∀ w ∈ wd, w.before av.toArray s = true) → s.vm.findClass own = some m.cls → meth.locks = false → c.maxLocals = maxL → meth.name = y.name → XK D cy s →
      (∀ q : Nat, s.heap.size ≤ q → A q) → va_P D vwCl w0 s.heap → va_D A w0 → va_S A s.heap s.heap [] → s.drawn.sameBut s.drawn lw_cs → lv_has ls maxL (lv_args 0 av) →
      W p l e rm (s.setDrawn s.drawn) m av.toArray below meth c s.heap [] 0 0 (MQD lw_cs below (xQ D A rv P w1) av.toArray s rm.cells rm.slots A) (F0 m 0 ls [])) : xMD l D cy y wd rm av w0 rv P w1 := by
  intro sz
  refine MetD.ofW (cc := cc) (maxL := maxL) (ret := ret) hy hw ?_
  intro p e s m args below meth c s₁ B hml hv hd0
  obtain ⟨rfl, hsz, hP, hK, hD0⟩ := hv
  subst hsz
  have hts := atoms_spec (ws := wd) B.pre
  have hl := lv_entry av hlen
  rw [lg_entry_eq]
  exact body p e s m below meth c (va_A w0 s.heap.size) _ B.exec B.bytes B.returns hts (by rw [← ho]; exact findClass_of_methodNamed B.named) B.notSynchronized hml (name_of_methodNamed B.named B.method).1 hK (fun q h => Or.inr h) hP hD0.self va_S.rf hd0 hl
theorem xrd {S : Type} {p : Program} {l : Launch} {e : Env} {R : Room} {s : State} {m : MethodId} {args : Array Value} {below : List Frame} {meth : Method} {c : Code} {H : Heap} {locs : List Loc} {cells slots mc ms : Nat} {cc : ByteArray} {pc : Nat} {ls : Array Slot} {D : va_G} {A : Nat → Prop} {rv : S → Option Value} {P : S → Prop} {w1 : S → va_W}
    (u : S) {v : UInt64} (hx : p.tables.exec = Jvm.exec) (hb : c.code = cc) (hr : meth.sig.returnType = some .double) (hlocks : meth.locks = false) (hS : va_S A s.heap H locs) (hc : cells ≤ mc) (hs : slots ≤ ms) (hdg : decode cc pc = .ok (.dreturn, 1)) (hP : va_P D vwCl (w1 u) H) (hD : va_D A (w1 u)) (hv : rv u = some (.double v)) (hu : P u) :
    W p l e R s m args below meth c H locs cells slots (MQ below (xQ D A rv P w1) args s mc ms A) (F0 m pc ls [.double v]) :=
  W.widen hc hs (W.dret (v := v) hx hb hr (fun t ht hW => ⟨⟨u, by rw [hv], hu, by rw [ht]; exact hP, hD⟩, hS.F ht⟩) hS.2.2 hdg hlocks)
set_option maxHeartbeats 4000000 in
set_option maxRecDepth 100000 in
/-- share -/
theorem c_X3_share (l : Launch) (D : va_G) (cy : Nat → ClassId) (h : Nat) (ad : Nat → Nat) (nS nB : Nat) (st bk : Nat → Iu) (gate nu : Iu) (bt : Nat) (wt : va_W) : xMD l D cy yX3_share wsX3_share ({ frames := 0, cells := 0, slots := 0, locals := 0 } : Room) [.ref h] (xw cy h ad nS nB st bk gate nu bt wt) (fun r : UInt64 => some (.double r)) (fun r => alike64 r (shV nu) = true) (fun _ => xw cy h ad nS nB st bk gate nu bt wt) := by
  refine xMD.of cX3_share 1 (some .double) RX3 (by decide +kernel) rfl rfl (Nat.le_of_ble_eq_true rfl) ?_
  intro p e s m below meth c A ls hx hb hr hts0 hown hlocks hml hin hK hA hP hD hS hd0 hl
  have hts := dr_words hts0 s.drawn
  have hl : lv_has ls 1 [(0, .ref h)] := hl
  have hinX2 : ∀ w ∈ wsX20, w ∈ wsX3_share := fun _ h => List.mem_cons_of_mem _ (List.mem_append_right _ h)
  have hinX3 : ∀ w ∈ wsX30, w ∈ wsX3_share := fun _ h => List.mem_cons_of_mem _ (List.mem_append_left _ (List.mem_append_right _ h))
  refine lv_aload_n hx hb dX3_share_0 rfl (lv_at hl 0 rfl) ?_
  refine va_get (D := D) (ci := 3) (v := .ref (ad 0)) (C := RX3) (T := TX3) (N := 2) hx hb hts hinX3 hown hK.1 hP 0 rfl rfl 0 (by decide) (hts (.fieldLink RX3 10 "LoafMarks" "town" "LLoafMarks$Town;") (List.mem_of_getElem? (i := 1) rfl)) (fun _ h9 => h9) rfl dX3_share_1 ?_
  refine va_get (D := D) (ci := 2) (v := .int (nu 2)) (C := RX2) (T := TX2) (N := 9) hx hb hts hinX2 hown hK.1 hP 1 rfl rfl 5 (by decide) (hts (.fieldLink RX3 150 "LoafMarks$Town" "bought" "I") (List.mem_of_getElem? (i := 2) rfl)) (fun _ h9 => h9) rfl dX3_share_4 ?_
  refine lv_if_ne (tgt := 12) hx hb dX3_share_7 (by decide) (fun c7 => ?_) (fun c7 => ?_)
  · refine lv_aload_n hx hb dX3_share_12 rfl (lv_at hl 0 rfl) ?_
    refine va_get (D := D) (ci := 3) (v := .ref (ad 0)) (C := RX3) (T := TX3) (N := 2) hx hb hts hinX3 hown hK.1 hP 0 rfl rfl 0 (by decide) (hts (.fieldLink RX3 10 "LoafMarks" "town" "LLoafMarks$Town;") (List.mem_of_getElem? (i := 1) rfl)) (fun _ h9 => h9) rfl dX3_share_13 ?_
    refine va_get (D := D) (ci := 2) (v := .int (nu 3)) (C := RX2) (T := TX2) (N := 9) hx hb hts hinX2 hown hK.1 hP 1 rfl rfl 6 (by decide) (hts (.fieldLink RX3 153 "LoafMarks$Town" "light" "I") (List.mem_of_getElem? (i := 3) rfl)) (fun _ h9 => h9) rfl dX3_share_16 ?_
    refine lv_i2d hx hb dX3_share_19 ?_
    refine lv_aload_n hx hb dX3_share_20 rfl (lv_at hl 0 rfl) ?_
    refine va_get (D := D) (ci := 3) (v := .ref (ad 0)) (C := RX3) (T := TX3) (N := 2) hx hb hts hinX3 hown hK.1 hP 0 rfl rfl 0 (by decide) (hts (.fieldLink RX3 10 "LoafMarks" "town" "LLoafMarks$Town;") (List.mem_of_getElem? (i := 1) rfl)) (fun _ h9 => h9) rfl dX3_share_21 ?_
    refine va_get (D := D) (ci := 2) (v := .int (nu 2)) (C := RX2) (T := TX2) (N := 9) hx hb hts hinX2 hown hK.1 hP 1 rfl rfl 5 (by decide) (hts (.fieldLink RX3 150 "LoafMarks$Town" "bought" "I") (List.mem_of_getElem? (i := 2) rfl)) (fun _ h9 => h9) rfl dX3_share_24 ?_
    refine lv_i2d hx hb dX3_share_27 ?_
    refine lv_ddiv_any hd0 lw_bits hx hb dX3_share_28 (fun r d1 hal hd1 => ?_)
    refine W.endD hd1 ?_
    exact xrd r hx hb hr hlocks hS (Nat.le_of_ble_eq_true rfl) (Nat.le_of_ble_eq_true rfl) dX3_share_29 hP hD rfl (by show alike64 r (shV nu) = true; unfold shV; rw [if_neg c7]; exact hal)
  · refine lv_dconst0 hx hb dX3_share_10 ?_
    refine W.endD hd0 ?_
    exact xrd FP.dconst0 hx hb hr hlocks hS (Nat.le_of_ble_eq_true rfl) (Nat.le_of_ble_eq_true rfl) dX3_share_11 hP hD rfl (by show alike64 FP.dconst0 (shV nu) = true; unfold shV; rw [if_pos c7]; decide)
end
