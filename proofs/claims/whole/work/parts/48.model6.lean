def mO (g : gG) (a : Nat → Nat) (ab : Int64) (be : Int64) (lm : Nat) (ra : Nat) (ta : Nat) (ti : Int32) (fa : Int32) (um : Nat) (ua : Nat) (hh : Int64) : va_W := [(a 0, .inr (8, [.ref (a 1), .long ab, .long be, .ref (a 2), .ref (a 3), .ref (a 4), .ref (a 5), .int (nI lm), .ref (a 6), .int (nI ra), .int (nI ta), .int ti, .int fa, .int (nI um), .int (nI ua), .ref (a 7), .ref (a 8), .ref (a 9), .ref (a 10), .ref (a 11), .ref (a 12), .ref (a 13), .ref (a 14), .long hh]))]
theorem mO_adr {g : gG} {a : Nat → Nat} {ab ab' : Int64} {be be' : Int64} {lm lm' : Nat} {ra ra' : Nat} {ta ta' : Nat} {ti ti' : Int32} {fa fa' : Int32} {um um' : Nat} {ua ua' : Nat} {hh hh' : Int64} : (mO g a ab be lm ra ta ti fa um ua hh).map Prod.fst = (mO g a ab' be' lm' ra' ta' ti' fa' um' ua' hh').map Prod.fst := rfl
theorem wth_in2 {k : Int32} (h : wth k 0 2 = true) : vp_in k 3 := by
  rw [wth_ti, show (0 : Int32).toInt = 0 from rfl, show (2 : Int32).toInt = 2 from rfl] at h
  rw [vp_in_iff]; omega
