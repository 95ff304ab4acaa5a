/-! ===== what the system does, in numbers ===== -/
def mn (x y : Int32) : Int32 := if y < x then y else x
def mx (x y : Int32) : Int32 := if x < y then y else x
-- a store: 0 flour, 1 weevils, 2 eaten; a baker: 0 store, 1 mark, 2 ration, 3 at hand, 4 weight, 5 shelf, 6 sold, 7 barred
def sTake (f : Iu) (n : Int32) : Iu := upd f 0 (f 0 + mn n (900 - f 0))
def sGive (f : Iu) (n : Int32) : Iu := upd f 0 (f 0 - mn n (f 0))
def sFed (f : Iu) : Iu := upd (upd f 0 (f 0 - mn (f 1) (f 0))) 2 (f 2 + mn (f 1) (f 0))
def sFeed (f : Iu) : Iu := upd (sFed f) 1 (if 0 < f 0 - mn (f 1) (f 0) then mn (f 1 + f 1 / 4 + 1) 50 else f 1 / 2)
def sSmoke (f : Iu) : Iu := upd (upd f 1 0) 0 (f 0 - f 0 / 10)
def bLoaves (b : Iu) : Int32 := mn (b 3 / b 4) 4
def bBake (b : Iu) : Iu := if b 7 = 0 ∧ 0 < b 4 then upd (upd b 3 (b 3 - bLoaves b * b 4)) 5 (b 5 + bLoaves b) else b
def bSell (b : Iu) (n : Int32) : Iu := upd (upd b 5 (b 5 - mn n (b 5))) 6 (b 6 + mn n (b 5))
def bLight (b : Iu) : Int32 := if b 4 < 10 then 1 else 0
def bInspect (b : Iu) : Iu := if b 4 < 10 then upd (upd b 5 (b 5 - 1)) 7 1 else upd b 5 (b 5 - 1)
def bForgive (b : Iu) : Iu := upd (upd b 7 0) 4 (mx (b 4) 10)
def bFact (b : Iu) (w : Nat) : Int32 := if w = 7 then (if b 7 = 0 then 0 else 1) else b w
-- their cells
abbrev cSt (f : Iu) : va_E := .inr (1, [.int (f 0), .int (f 1), .int (f 2)])
abbrev cBk (b : Iu) : va_E := .inr (0, [.int (b 0), .int (b 1), .int (b 2), .int (b 3), .int (b 4), .int (b 5), .int (b 6), .int (b 7)])
theorem n_bool {v : Int32} (h : v = 0 ∨ v = 1) : narrow .boolean (.int v) = .int v ∧ fits .boolean (.int v) = true := by
  rcases h with rfl | rfl <;> exact ⟨by decide, by decide⟩
