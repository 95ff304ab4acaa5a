/-! ===== the law's table of what was: rows of numbers ===== -/
/-- the table of nB rows, by its addresses -/
def wz (cy : Nat → ClassId) (aw : Nat → Nat) (nB : Nat) (f : Nat → Iu) : va_W := (aw 0, .inl (cy 3, nB, .inr (.inr (.inr (.inr (rB aw nB)))))) :: yB cy aw nB f
def awF (q : Nat) (r : Nat → Nat) : Nat → Nat := fun k => if k < 8 then q else r (k - 8)
theorem awF_8 (q : Nat) (r : Nat → Nat) (i : Nat) : awF q r (8 + i) = r i := by
  unfold awF
  rw [if_neg (by omega), Nat.add_sub_cancel_left]
section WZ
variable {D : va_G} {A : Nat → Prop} {H : Heap} {cy : Nat → ClassId} {aw am : Nat → Nat} {nS nB : Nat} {f g st bk : Nat → Iu} {gate nu : Iu} {X wr : va_W} {q : Nat} {r : Nat → Nat} {ff : Nat → va_E}
theorem wz_at {j : Nat} (hj : j < nB) : (wz cy aw nB f)[1 + j]? = some (aw (8 + j), .inl (cy 0, 8, .inl (f j))) := by
  unfold wz
  rw [show 1 + j = j + 1 by omega, List.getElem?_cons_succ]
  exact yB_at hj
theorem wz_set {j : Nat} {x : Iu} (hj : j < nB) : (wr ++ wz cy aw nB f).set (wr.length + (1 + j)) (aw (8 + j), .inl (cy 0, 8, .inl x)) = wr ++ wz cy aw nB (va_up f j x) := by
  rw [List.set_append_right _ _ (by omega), Nat.add_sub_cancel_left]
  unfold wz
  rw [show 1 + j = j + 1 by omega, List.set_cons_succ, yB_set hj]
theorem wz_made : (X ++ [(q, .inl (cy 3, nB, .inr (.inr (.inr (.inr (fun i => if i < nB then some (r i) else none))))))]) ++ va_pl ([] ++ (List.range nB).map r) (vr_up ff ((List.range nB).map r) (.inl (cy 0, 8, .inl (fun _ => 0)))) = X ++ wz cy (awF q r) nB (fun _ _ => 0) := by
  rw [List.append_assoc]
  congr 1
  have eR : rB (awF q r) nB = fun i => if i < nB then some (r i) else none := by
    funext i
    unfold rB
    rw [awF_8]
  have eY : yB cy (awF q r) nB (fun _ _ => 0) = va_pl ([] ++ (List.range nB).map r) (vr_up ff ((List.range nB).map r) (.inl (cy 0, 8, .inl (fun _ => 0)))) := by
    unfold yB va_pl
    rw [List.nil_append, List.map_map]
    refine List.map_congr_left fun i hi => ?_
    show (awF q r (8 + i), _) = (r i, vr_up ff ((List.range nB).map r) _ (r i))
    rw [awF_8, vr_up_in (List.mem_map.mpr ⟨i, hi, rfl⟩)]
  unfold wz
  rw [eR, eY]
  rfl
theorem wz_P (h : ∀ j, j < nB → ∀ k, k < 8 → f j k = g j k) (hP : va_P D vwCl (sw cy am nS nB st bk gate nu (wr ++ wz cy aw nB f)) H) : va_P D vwCl (sw cy am nS nB st bk gate nu (wr ++ wz cy aw nB g)) H := by
  rw [← sw_snoc] at hP ⊢
  obtain ⟨h1, h2⟩ := xP_app.mp hP
  refine xP_app.mpr ⟨h1, xP_iff.mpr fun x hx => ?_⟩
  rw [xP_iff] at h2
  rcases List.mem_cons.mp hx with z | z
  · subst z
    exact h2 _ List.mem_cons_self
  · obtain ⟨j, hj, rfl⟩ := List.mem_map.mp z
    have hj := List.mem_range.mp hj
    have h3 := h2 (aw (8 + j), .inl (cy 0, 8, .inl (f j))) (List.mem_cons_of_mem _ (List.mem_map.mpr ⟨j, List.mem_range.mpr hj, rfl⟩))
    show H[aw (8 + j)]? = some (vp_cell _ _)
    rw [← vp_cell_cong (h j hj)]
    exact h3
theorem wz_D (hD : va_D A (sw cy am nS nB st bk gate nu (wr ++ wz cy aw nB f))) : va_D A (sw cy am nS nB st bk gate nu (wr ++ wz cy aw nB g)) := by
  rw [← sw_snoc] at hD ⊢
  rw [xD_iff] at hD ⊢
  have e : (wz cy aw nB g).map Prod.fst = (wz cy aw nB f).map Prod.fst := by unfold wz yB; simp [List.map_map, Function.comp_def]
  have e2 : (sw cy am nS nB st bk gate nu wr ++ wz cy aw nB g).map Prod.fst = (sw cy am nS nB st bk gate nu wr ++ wz cy aw nB f).map Prod.fst := by rw [List.map_append, List.map_append, e]
  rw [e2]
  refine ⟨hD.1, fun x hx => ?_⟩
  have hm : x.1 ∈ (sw cy am nS nB st bk gate nu wr ++ wz cy aw nB f).map Prod.fst := by rw [← e2]; exact List.mem_map.mpr ⟨x, hx, rfl⟩
  obtain ⟨y, h2, e3⟩ := List.mem_map.mp hm
  rw [← e3]
  exact hD.2 y h2
end WZ
theorem was_made {D : va_G} {H : Heap} {X : va_W} {f : Nat → va_E} (hP : va_P D vwCl X H) : va_P D vwCl (X ++ va_pl [] f) H := by
  show va_P D vwCl (X ++ []) H
  rw [List.append_nil]
  exact hP
theorem was_madeD {A : Nat → Prop} {X : va_W} {f : Nat → va_E} (hD : va_D A X) : va_D A (X ++ va_pl [] f) := by
  show va_D A (X ++ [])
  rw [List.append_nil]
  exact hD
theorem inner8 (c : ClassId) : Jvm.Free.Multi.innerC c 8 (defaultValue .int) = vp_cell c (8, .inl (fun _ => 0)) := by
  show ({ cls := c, slots := Array.replicate 8 (.int 0), vm := .none } : Cell) = _
  rw [vp_cell_i, arrV_new]
/-- an hour more -/
theorem aP_hour {hq tS tB a0 : Nat} {am ad : Nat → Nat} {nS nB : Nat} {v : TS} {gate : Iu} (h : aP hq tS tB a0 (am, ad, nS, nB, v, gate)) (hq1 : hq ≤ 200000) : aP (hq + 1) tS tB a0 (am, ad, nS, nB, hour1 nS nB (hq % 24) gate v, gate) :=
  ⟨jinv_same h.1 (inv_hour h.2.2.2.1 hq1 h.1.1) (fun j hj => hour_q hj (by decide) (by decide) (by decide)), h.2⟩
