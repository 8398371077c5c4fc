/-- what stands of the reading: fault, sort, start, behind, value -/
abbrev T5 : Type := Int32 × Int32 × Nat × Nat × Int32
def xT (g : gG) (x : Nat → Nat) (N : Nat) (f : Nat → Int32) (T : T5) : va_W := xW g x N T.1 f T.2.1 T.2.2.1 T.2.2.2.1 T.2.2.2.2
theorem xT_adr {g : gG} {x : Nat → Nat} {N N' : Nat} {f f' : Nat → Int32} {T T' : T5} : (xT g x N f T).map Prod.fst = (xT g x N' f' T').map Prod.fst := rfl
def ntT (f : Nat → Int32) (N : Nat) (T : T5) : T5 :=
  if skF (fun k => decide (f k = 32)) N T.2.2.2.1 < N then
    (if wth (f (skF (fun k => decide (f k = 32)) N T.2.2.2.1)) 97 122 = true then (T.1, 1, skF (fun k => decide (f k = 32)) N T.2.2.2.1, skF (fun k => wth (f k) 97 122) N (skF (fun k => decide (f k = 32)) N T.2.2.2.1 + 1), T.2.2.2.2)
    else if wth (f (skF (fun k => decide (f k = 32)) N T.2.2.2.1)) 48 57 = true then (T.1, (if skF (fun k => wth (f k) 48 57) N (skF (fun k => decide (f k = 32)) N T.2.2.2.1 + 1) - skF (fun k => decide (f k = 32)) N T.2.2.2.1 ≤ 2 then 2 else 4), skF (fun k => decide (f k = 32)) N T.2.2.2.1, skF (fun k => wth (f k) 48 57) N (skF (fun k => decide (f k = 32)) N T.2.2.2.1 + 1), nuV f N (skF (fun k => decide (f k = 32)) N T.2.2.2.1) (skF (fun k => wth (f k) 48 57) N (skF (fun k => decide (f k = 32)) N T.2.2.2.1 + 1)))
    else (T.1, (if f (skF (fun k => decide (f k = 32)) N T.2.2.2.1) = 59 then 3 else 4), skF (fun k => decide (f k = 32)) N T.2.2.2.1, skF (fun k => decide (f k = 32)) N T.2.2.2.1 + 1, T.2.2.2.2))
  else (T.1, 0, skF (fun k => decide (f k = 32)) N T.2.2.2.1, skF (fun k => decide (f k = 32)) N T.2.2.2.1 + 1, T.2.2.2.2)
def fhT (N : Nat) (T : T5) : T5 := (if T.2.1 = 0 then nI N else nI T.2.2.1, T.2)
def tkB (f : Nat → Int32) (N : Nat) (lo hi : Int32) (T : T5) : Bool := decide ((ntT f N T).2.1 = 2) && wth (ntT f N T).2.2.2.2 lo hi
def tkT (f : Nat → Int32) (N : Nat) (lo hi : Int32) (T : T5) : T5 := if tkB f N lo hi T = true then ntT f N T else fhT N (ntT f N T)
