/-! ===== the law: what its start gives ===== -/
theorem l_str {args : Array Value} {s : State} {k : Nat} {tx : String} (h1 : (Cond.stringRef RX3 k tx).before args s = true) (h2 : (Cond.exactly (.string RX3 k) "java/lang/String").before args s = true) : ∃ a, vk_R RX3 k tx a s := by
  obtain ⟨a, c, cA, kA, q1, -⟩ := Cond.exactly_spec (args := args) (first := s) (o := none) (s := s) (idx := []) (t := .string RX3 k) (cls := "java/lang/String") h2
  exact ⟨a, vk_R.of h1 q1⟩
theorem l_tx : ∀ q ∈ xTx, ∀ r ∈ xTx, q.1 = r.1 → q.2 = r.2 := by decide +kernel
theorem l_sw : ∀ q ∈ xTx, Cond.stringRef RX3 q.1 q.2 ∈ lw_tbl := by decide +kernel
theorem l_ex : ∀ q ∈ xTx, Cond.exactly (.string RX3 q.1) "java/lang/String" ∈ flatC (Jvm.Cond.and given_1 narrow_1) := by decide +kernel
theorem l_bw : ∀ w ∈ xBw, w ∈ lw_tbl := by decide +kernel
theorem l_arr {args : Array Value} {s : State} {ty : FieldType} (h : (Cond.arrayClass ty).before args s = true) : ∃ cA : ClassId, ArrOfT s cA ty ∧ s.vm.findClass ("[" ++ ty.toString) = some cA := by
  obtain ⟨c, k, comp, h1, h2, h3⟩ := Cond.arrayClass_spec h
  exact ⟨c, fun n z => ⟨fun k h => (by cases h), k, h2, comp, h3⟩, h1⟩
theorem l_obj {args : Array Value} {s : State} {C : String} (h : (Cond.arrayOver (.object C)).before args s = true) : ∃ cA : ClassId, ArrOfT s cA (.object C) ∧ va_RA s cA (.object C) := by
  obtain ⟨comp, c, k, h1, -, h2, h3, h4⟩ := Cond.arrayOver_spec h
  exact ⟨c, fun n z => ⟨fun k h => (by cases h), k, h2, comp, h3⟩, k, comp, h2, h3, h1, h4⟩
theorem l_oa {args : Array Value} {s : State} (h : (Cond.arrayOver (.array .int)).before args s = true) : ∃ cA : ClassId, ArrOfT s cA (.array .int) ∧ s.vm.findClass ("[" ++ (FieldType.array .int).toString) = some cA := by
  obtain ⟨comp, c, k, h1, -, h2, h3, h4⟩ := arrayOverA_spec h
  exact ⟨c, fun n z => ⟨fun k h => (by cases h), k, h2, comp, h3⟩, h4⟩
theorem l_facts {p : Program} {s : State} {m : MethodId} {meth : Method} {c : Code} {b L : Nat} {xs : Nat → Int32} (C0 : lw_At p s m meth c b L xs) : ∃ (D : va_G) (cy : Nat → ClassId) (sa : Nat → Nat), XK D cy s ∧ XV sa s ∧ xZ (fun q : Nat => s.heap.size ≤ q) s s.heap ∧ xNcs s ∧ va_Nw (.methodLinkNest RX3 9 yX2_init "LoafMarks") s := by
  obtain ⟨hx, hb, hr, hml, hown, hts, hX, hbl, hlocks, hgv⟩ := id C0
  have hs := flat_of_before _ hgv
  have hA : ∀ a : Nat, a < s.heap.size → ¬ (fun q : Nat => s.heap.size ≤ q) a := fun a h => Nat.not_le.mpr h
  obtain ⟨c0, i0, k0⟩ := u_known (C := RX0) (T := TX0) (N := 8) (n := 8) hts inX0 (hts _ (by decide +kernel))
  obtain ⟨c1, i1, k1⟩ := u_known (C := RX1) (T := TX1) (N := 3) (n := 3) hts inX1 (hts _ (by decide +kernel))
  obtain ⟨c2, i2, k2⟩ := u_known (C := RX2) (T := TX2) (N := 9) (n := 9) hts inX2 (hts _ (by decide +kernel))
  obtain ⟨c3, i3, k3⟩ := u_known (C := RX3) (T := TX3) (N := 2) (n := 2) hts inX3 (hts _ (by decide +kernel))
  obtain ⟨c4, i4, k4⟩ := u_known (C := RX4) (T := TX4) (N := 8) (n := 8) hts inX4 (hts _ (by decide +kernel))
  obtain ⟨y0, a0, f0⟩ := l_arr (hts (.arrayClass .int) (by decide +kernel))
  have o1 := hts (.arrayOver (.object RX1)) (by decide +kernel)
  have o2 := hts (.arrayOver (.object RX0)) (by decide +kernel)
  have o3 := hts (.arrayOver (.array .int)) (by decide +kernel)
  obtain ⟨y1, a1, f1⟩ := l_obj o1
  obtain ⟨y2, a2, f2⟩ := l_obj o2
  obtain ⟨y3, a3, f3⟩ := l_oa o3
  obtain ⟨y4, a4, f4⟩ := l_arr (hts (.arrayClass .long) (by decide +kernel))
  have hstr : ∀ q ∈ xTx, ∃ a, vk_R RX3 q.1 q.2 a s := fun q hq => l_str (hts _ (l_sw q hq)) (hs _ (l_ex q hq))
  refine ⟨(fun n => [c0, c1, c2, c3, c4].getD n c0, fun n => [i0, i1, i2, i3, i4].getD n i0), fun n => [y0, y1, y2, y3, y4].getD n y0, fun k => Classical.epsilon (fun a => ∀ r ∈ xTx, r.1 = k → vk_R RX3 k r.2 a s), ⟨⟨?_, ?_⟩, o1, o2, o3, va_Nw.of rfl (hts (.castable "[I" "java/lang/Cloneable") (by decide +kernel))⟩, ⟨?_, ?_⟩, ⟨?_, ?_⟩, ⟨?_, ?_, ?_, ?_⟩, ?_⟩
  · intro n q hq
    match n, hq with
    | 0, hq => cases hq; exact k0
    | 1, hq => cases hq; exact k1
    | 2, hq => cases hq; exact k2
    | 3, hq => cases hq; exact k3
    | 4, hq => cases hq; exact k4
    | n + 5, hq => cases hq
  · intro n q hq
    match n, hq with
    | 0, hq => cases hq; exact ⟨a0, f0⟩
    | 1, hq => cases hq; exact ⟨a1, f1⟩
    | 2, hq => cases hq; exact ⟨a2, f2⟩
    | 3, hq => cases hq; exact ⟨a3, f3⟩
    | 4, hq => cases hq; exact ⟨a4, f4⟩
    | n + 5, hq => cases hq
  · intro w hw
    have h1 := hts w (l_bw w hw)
    simp only [xBw, List.mem_cons, List.not_mem_nil, or_false] at hw
    rcases hw with rfl | rfl | rfl | rfl | rfl | rfl <;> exact va_Nw.of rfl h1
  · intro q hq
    obtain ⟨a, ha⟩ := hstr q hq
    have he : ∃ a, ∀ r ∈ xTx, r.1 = q.1 → vk_R RX3 q.1 r.2 a s := ⟨a, fun r hr e => by rw [← l_tx q hq r hr e.symm]; exact ha⟩
    exact Classical.epsilon_spec he q hq rfl
  · exact vx_Zqof (hts (.laysStatic Bundle.tN "UNASSIGNED_STACK" Bundle.steD) (by decide +kernel)) (hts (.initialized Bundle.tN) (by decide +kernel)) (hs (.isRef (.static Bundle.tN "UNASSIGNED_STACK" Bundle.steD)) (by decide +kernel)) hA
  · exact vx_Zqof (hts (.laysStatic Bundle.tN "SUPPRESSED_SENTINEL" Bundle.listD) (by decide +kernel)) (hts (.initialized Bundle.tN) (by decide +kernel)) (hs (.isRef (.static Bundle.tN "SUPPRESSED_SENTINEL" Bundle.listD)) (by decide +kernel)) hA
  · exact va_Nc.of (hs (.not (.castable E_A E_I)) (by decide +kernel))
  · exact va_Nc.of (hs (.not (.castable E_S E_A)) (by decide +kernel))
  · exact va_Nc.of (hs (.not (.castable E_S E_I)) (by decide +kernel))
  · exact va_Nc.of (hs (.not (.castable E_I E_A)) (by decide +kernel))
  · exact va_Nw.of rfl (hts (.methodLinkNest RX3 9 yX2_init "LoafMarks") (by decide +kernel))
