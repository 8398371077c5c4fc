theorem tk_beh {f : Nat → Int32} {N : Nat} {lo hi : Int32} {T : T5} (hb : T.2.2.2.1 ≤ N) (h : tkB f N lo hi T = true) : (ntT f N T).2.2.2.1 ≤ N := by
  simp only [tkB, Bool.and_eq_true, decide_eq_true_eq] at h
  have h1 := h.1
  have hs := skF_le (p := fun k => decide (f k = 32)) hb
  unfold ntT at h1 ⊢
  by_cases c1 : skF (fun k => decide (f k = 32)) N T.2.2.2.1 < N
  · rw [if_pos c1] at h1 ⊢
    by_cases c2 : wth (f (skF (fun k => decide (f k = 32)) N T.2.2.2.1)) 97 122 = true
    · rw [if_pos c2]; exact skF_le (by omega)
    · rw [if_neg c2]
      by_cases c3 : wth (f (skF (fun k => decide (f k = 32)) N T.2.2.2.1)) 48 57 = true
      · rw [if_pos c3]; exact skF_le (by omega)
      · rw [if_neg c3]; show _ + 1 ≤ N; omega
  · rw [if_neg c1] at h1
    exact absurd (show (0 : Int32) = 2 from h1) (by decide)
theorem pl_bd {r : Nat → Int32} (hw : Wf r) (h : r 1 < 3) : bd (r 1) 0 2 := by
  rw [Int32.lt_iff_toInt_lt, show (3 : Int32).toInt = 3 from rfl] at h
  exact ⟨hw.2.1.1, by omega⟩
theorem nu_bd {r : Nat → Int32} (hw : Wf r) (h : r 2 < 6) : bd (r 2) 0 5 := by
  rw [Int32.lt_iff_toInt_lt, show (6 : Int32).toInt = 6 from rfl] at h
  exact ⟨hw.2.2.1.1, by omega⟩
/-- the items -/
def rdNum (f : Nat → Int32) (N : Nat) (T : T5) (r : Nat → Int32) : Bool × T5 × (Nat → Int32) := if tkB f N 0 99 T = true then (true, ntT f N T, upd (upd (upd r 1 0) 2 0) 0 (ntT f N T).2.2.2.2) else (false, fhT N (ntT f N T), r)
def rdWait (f : Nat → Int32) (N : Nat) (T : T5) (r : Nat → Int32) : Bool × T5 × (Nat → Int32) := if tkB f N 1 99 T = true then (true, ntT f N T, upd r 0 (if r 0 + (ntT f N T).2.2.2.2 < 9999 then r 0 + (ntT f N T).2.2.2.2 else 9999)) else (false, fhT N (ntT f N T), r)
def adP (r : Nat → Int32) (k q : Int32) : Nat → Int32 := upd (upd (upd r (3 + cl (r 1)) k) (6 + cl (r 1)) q) 1 (r 1 + 1)
def adN (r : Nat → Int32) (q k h w : Int32) : Nat → Int32 := upd (upd (upd (upd (upd (upd (upd r (9 + cl (r 2)) q) (15 + cl (r 2)) k) (21 + cl (r 2)) h) (27 + cl (r 2)) w) (33 + cl (r 2)) 0) (39 + cl (r 2)) 1) 2 (r 2 + 1)
def rdPl (f : Nat → Int32) (N : Nat) (T : T5) (r : Nat → Int32) : Bool × T5 × (Nat → Int32) := if r 1 < 3 then (if tkB f N 0 5 T = true then (if tkB f N 1 9 (ntT f N T) = true then (true, ntT f N (ntT f N T), upd (upd (upd r (3 + cl (r 1)) (ntT f N T).2.2.2.2) (6 + cl (r 1)) (ntT f N (ntT f N T)).2.2.2.2) 1 (r 1 + 1)) else (false, fhT N (ntT f N (ntT f N T)), r)) else (false, fhT N (ntT f N T), r)) else (false, fhT N T, r)
def rdNut (f : Nat → Int32) (N : Nat) (T : T5) (r : Nat → Int32) : Bool × T5 × (Nat → Int32) := if r 2 < 6 then (if tkB f N 0 (r 1 - 1) T = true then (if tkB f N 0 5 (ntT f N T) = true then (if tkB f N 0 9 (ntT f N (ntT f N T)) = true then (if tkB f N 1 9 (ntT f N (ntT f N (ntT f N T))) = true then (true, ntT f N (ntT f N (ntT f N (ntT f N T))), upd (upd (upd (upd (upd (upd (upd r (9 + cl (r 2)) (ntT f N T).2.2.2.2) (15 + cl (r 2)) (ntT f N (ntT f N T)).2.2.2.2) (21 + cl (r 2)) (ntT f N (ntT f N (ntT f N T))).2.2.2.2) (27 + cl (r 2)) (ntT f N (ntT f N (ntT f N (ntT f N T)))).2.2.2.2) (33 + cl (r 2)) 0) (39 + cl (r 2)) 1) 2 (r 2 + 1)) else (false, fhT N (ntT f N (ntT f N (ntT f N (ntT f N T)))), r)) else (false, fhT N (ntT f N (ntT f N (ntT f N T))), r)) else (false, fhT N (ntT f N (ntT f N T)), r)) else (false, fhT N (ntT f N T), r)) else (false, fhT N T, r)
def rdStk (f : Nat → Int32) (N : Nat) (T : T5) (r : Nat → Int32) : Bool × T5 × (Nat → Int32) := if tkB f N 0 (r 2 - 1) T = true then (if yBrk r (ntT f N T).2.2.2.2 = true then (false, fhT N (ntT f N T), r) else if tkB f N 0 (r 2 - 1) (ntT f N T) = true then (if yCan r (ntT f N T).2.2.2.2 (ntT f N (ntT f N T)).2.2.2.2 = true then (true, ntT f N (ntT f N T), stk r (ntT f N T).2.2.2.2 (ntT f N (ntT f N T)).2.2.2.2) else (false, fhT N (ntT f N (ntT f N T)), r)) else (false, fhT N (ntT f N (ntT f N T)), r)) else (false, fhT N (ntT f N T), r)
