theorem yWof_m {r : Nat → Int32} {i p : Int32} : yWof r i p = (yNut r i && !mBrk r i && decide (r (9 + cl i) = p)) := by
  unfold yWof yWhl mBrk
  simp only [← decide_not, Int32.not_le]
theorem sumI_0 {p : Nat → Bool} {f : Nat → Int32} {n : Nat} (h : p n = false) : sumI p f n + 0 = sumI p f (n + 1) := by
  rw [← sumI_f h]; exact Int32.add_zero _
/-- how many there are, as the reference counts them -/
def cnM (r tl : Nat → Int32) (um lm : Nat) (w : Int32) : Int32 := if w = 0 then r 1 else if w = 1 then r 2 else if w = 2 then r 0 else if w = 3 then setB (fun j => mBrk r (nI j)) (cl (r 2)) else if w = 4 then sumN (fun j => r (33 + j)) (cl (r 2)) else if w = 5 then sumN (fun j => r (39 + j)) (cl (r 2)) else if w = 6 then tl 0 else if w = 7 then tl 26 else if w = 8 then tl 63 else if w = 9 then nI um else nI lm
