/-! ===== numbers: what the hour does (out of the rows of the whole claim) ===== -/
theorem nI_mul (a b : Nat) : nI a * nI b = nI (a * b) := (Int32.ofNat_mul a b).symm
theorem nI_at (a i k : Nat) : nI a * nI i + nI k = nI (a * i + k) := by rw [nI_mul, nI_add]
theorem up_upd {f : Nat → Iu} {i k : Nat} {F : Iu} {x : Int32} : va_up (va_up f i F) i (upd ((va_up f i F) i) k x) = va_up f i (upd F k x) := by
  funext q
  rcases Decidable.em (q = i) with h | h
  · subst h; rw [up_at, up_at, up_at]
  · rw [up_ne h, up_ne h, up_ne h]
theorem mn_comm (x y : Int32) : mn x y = mn y x := by
  unfold mn
  split <;> split
  · rename_i h1 h2; exact absurd h1 (Int32.lt_asymm h2)
  · rfl
  · rfl
  · rename_i h1 h2; exact Int32.le_antisymm (Int32.not_lt.mp h1) (Int32.not_lt.mp h2)
theorem mx_comm (x y : Int32) : mx x y = mx y x := by
  unfold mx
  split <;> split
  · rename_i h1 h2; exact absurd h1 (Int32.lt_asymm h2)
  · rfl
  · rfl
  · rename_i h1 h2; exact (Int32.le_antisymm (Int32.not_lt.mp h1) (Int32.not_lt.mp h2)).symm
theorem i_add {x y : Int32} (h1 : -2147483648 ≤ x.toInt + y.toInt) (h2 : x.toInt + y.toInt < 2147483648) : (x + y).toInt = x.toInt + y.toInt := by
  rw [Int32.toInt_add]
  exact Int.bmod_eq_of_le (by omega) (by omega)
theorem i_sub {x y : Int32} (h1 : -2147483648 ≤ x.toInt - y.toInt) (h2 : x.toInt - y.toInt < 2147483648) : (x - y).toInt = x.toInt - y.toInt := by
  rw [Int32.toInt_sub]
  exact Int.bmod_eq_of_le (by omega) (by omega)
theorem i_900 : (900 : Int32).toInt = 900 := by decide
theorem mn_int (x y : Int32) : (mn x y).toInt = min x.toInt y.toInt := by
  unfold mn
  split
  · rename_i h; have := Int32.lt_iff_toInt_lt.mp h; omega
  · rename_i h; have := Int32.le_iff_toInt_le.mp (Int32.not_lt.mp h); omega
theorem mx_int (x y : Int32) : (mx x y).toInt = max x.toInt y.toInt := by
  unfold mx
  split
  · rename_i h; have := Int32.lt_iff_toInt_lt.mp h; omega
  · rename_i h; have := Int32.le_iff_toInt_le.mp (Int32.not_lt.mp h); omega
theorem cart_eq {f n : Int32} (h : 0 ≤ f.toInt ∧ f.toInt ≤ 900) (g : 0 ≤ n.toInt ∧ n.toInt ≤ 99) : mn 900 (f + n) = f + mn n (900 - f) ∧ mx 0 (f + n - 900) = n - mn n (900 - f) := by
  have e1 : (f + n).toInt = f.toInt + n.toInt := i_add (by omega) (by omega)
  have e2 : (900 - f).toInt = 900 - f.toInt := by rw [i_sub (by rw [i_900]; omega) (by rw [i_900]; omega), i_900]
  have e3 : (mn n (900 - f)).toInt = min n.toInt (900 - f.toInt) := by rw [mn_int, e2]
  have e4 : (f + n - 900).toInt = f.toInt + n.toInt - 900 := by rw [i_sub (by rw [i_900, e1]; omega) (by rw [i_900, e1]; omega), i_900, e1]
  refine ⟨Int32.toInt_inj.mp ?_, Int32.toInt_inj.mp ?_⟩
  · rw [mn_int, e1, i_900, i_add (by rw [e3]; omega) (by rw [e3]; omega), e3]; omega
  · rw [mx_int, e4, i_sub (by rw [e3]; omega) (by rw [e3]; omega), e3, show (0 : Int32).toInt = 0 from rfl]; omega
theorem dlN_ne (u : T2) (j : Nat) {k : Nat} (h3 : k ≠ 3) : ∀ n, (dlN u n).2 j k = u.2 j k
  | 0 => rfl
  | n + 1 => by
    show (dlStep (dlN u n) n _).2 j k = _
    unfold dlStep
    split
    · show va_up (dlN u n).2 n _ j k = _
      by_cases h : j = n
      · subst h; rw [up_at, upd_ne h3]; exact dlN_ne u j h3 j
      · rw [up_ne h]; exact dlN_ne u j h3 n
    · exact dlN_ne u j h3 n
/-- what an hour of the reference wants of the town -/
def okH (nS nB : Nat) (gate : Iu) (u : TS) : Prop := (∀ i, i < nS → 0 ≤ (u.1 i 0).toInt ∧ (u.1 i 0).toInt ≤ 900) ∧ (∀ j, j < nB → (∃ i, i < nS ∧ u.2.1 j 0 = nI i) ∧ (u.2.1 j 7 = 0 ∨ u.2.1 j 7 = 1) ∧ 0 < u.2.1 j 4) ∧ (∀ k, k < 24 → 0 ≤ (gate k).toInt ∧ (gate k).toInt ≤ 99)
/-- the hour before the ovens -/
def hPre (nS nB k : Nat) (gate : Iu) (u : TS) : TS := if k = 0 then hNight nS nB (hCart nS (gate k) u) else hCart nS (gate k) u
theorem hPre_ne (nS nB k : Nat) (gate : Iu) (u : TS) (j : Nat) {q : Nat} (h3 : q ≠ 3) : (hPre nS nB k gate u).2.1 j q = u.2.1 j q := by
  unfold hPre
  split
  · show (dlN ((hCart nS (gate k) u).1, (hCart nS (gate k) u).2.1) nB).2 j q = _
    rw [dlN_ne _ _ h3, hCart_bk]
  · rw [hCart_bk]
theorem one_ne {x : Int32} (h : x = 0 ∨ x = 1) (g : ¬ x = 1) : x = 0 := h.elim id (fun z => absurd z g)
theorem mD_app {A : Nat → Prop} {w1 w2 : va_W} (h : va_D A (w1 ++ w2)) : va_D A w1 := by
  rw [xD_iff] at h ⊢
  refine ⟨?_, fun q hq => h.2 q (List.mem_append_left _ hq)⟩
  have h1 := h.1
  rw [List.map_append, List.nodup_append] at h1
  exact h1.1
theorem bFact_eq {b : Iu} {k : Nat} (h : b 7 = 0 ∨ b 7 = 1) : bFact b k = b k := by
  unfold bFact
  split
  · rename_i e
    subst e
    rcases h with h | h <;> rw [h] <;> rfl
  · rfl
theorem sm_bar {bk : Nat → Iu} : ∀ {n : Nat}, (∀ j, j < n → bk j 7 = 0 ∨ bk j 7 = 1) → sm (fun i => bk i 7) n = sm (fun i => if bk i 7 = 0 then 0 else 1) n
  | 0, _ => rfl
  | n + 1, h => by
    show sm (fun i => bk i 7) n + bk n 7 = sm (fun i => if bk i 7 = 0 then 0 else 1) n + (if bk n 7 = 0 then 0 else 1)
    rw [sm_bar (fun j hj => h j (by omega))]
    rcases h n (by omega) with h1 | h1 <;> rw [h1] <;> rfl
theorem hour1_4 (nS nB k : Nat) (gate : Iu) (u : TS) : (hour1 nS nB k gate u).2.2 4 = u.2.2 4 + hUnfed nS nB k gate u := by
  refine (upd_ne (f := (hSale nS nB k gate u).2.2) (k := 0) (j := 4) (x := (hSale nS nB k gate u).2.2 0 + 1) (by decide)).trans ?_
  unfold hSale hUnfed
  split
  · unfold hNoon
    dsimp only
    rw [upd_at, slN_nu _ (by decide) (by decide)]
    show (hMorn nS nB k gate u).2.2 4 + _ = _
    rw [hMorn_nu _ _ _ _ _ (by decide)]
  · rw [hMorn_nu _ _ _ _ _ (by decide), Int32.add_zero]
theorem hrs_4 (nS nB h : Nat) (gate : Iu) (u : TS) : ∀ n, (hrs nS nB h gate u n).2.2 4 = u.2.2 4 + unf nS nB h gate u n
  | 0 => by show u.2.2 4 = u.2.2 4 + 0; rw [Int32.add_zero]
  | n + 1 => by
    show (hour1 nS nB ((h + n) % 24) gate (hrs nS nB h gate u n)).2.2 4 = u.2.2 4 + (unf nS nB h gate u n + hUnfed nS nB ((h + n) % 24) gate (hrs nS nB h gate u n))
    rw [hour1_4, hrs_4 nS nB h gate u n, Int32.add_assoc]
theorem add_sub_l (a b : Int32) : a + b - a = b := by rw [Int32.add_comm, Int32.add_sub_cancel]
theorem add_eq_l {a b : Int32} (h : a + b = a) : b = 0 := by
  have e := add_sub_l a b
  rw [h, Int32.sub_self] at e
  exact e.symm
theorem hour1_1 (nS nB k : Nat) (gate : Iu) (u : TS) : (hour1 nS nB k gate u).2.2 1 = u.2.2 1 := by
  refine (upd_ne (f := (hSale nS nB k gate u).2.2) (k := 0) (j := 1) (x := (hSale nS nB k gate u).2.2 0 + 1) (by decide)).trans ?_
  unfold hSale
  split
  · rw [hNoon_nu _ _ (by decide), slN_nu _ (by decide) (by decide)]
    exact hMorn_nu _ _ _ _ _ (by decide)
  · exact hMorn_nu _ _ _ _ _ (by decide)
theorem hrs_1 (nS nB h : Nat) (gate : Iu) (u : TS) : ∀ n, (hrs nS nB h gate u n).2.2 1 = u.2.2 1
  | 0 => rfl
  | n + 1 => (hour1_1 _ _ _ _ _).trans (hrs_1 nS nB h gate u n)
