/-! ===== what the numbers are: forces, cracks, rows of a yard ===== -/
abbrev irm (x y : Int32) : Int32 := x - x / y * y
def wth (n lo hi : Int32) : Bool := decide (lo ≤ n) && decide (n ≤ hi)
def hasB (b k : Int32) : Bool := decide ¬ ((b >>> (k &&& 31)) &&& 1) = 0
def frc (k a w t : Int32) : Int32 :=
  if k = 1 then a + w + 3
  else if k = 2 then (if irm t 3 = 2 then a + w + 4 else a + w)
  else if k = 3 then (if 1 < a + w + 3 - t / 5 then a + w + 3 - t / 5 else 1)
  else if k = 4 then (a + w + 1) / 2
  else if k = 5 then (if irm t 7 = 0 then 2 * (if irm t 3 = 2 then a + w + 4 else a + w) else (if irm t 3 = 2 then a + w + 4 else a + w))
  else a + w
def plainF (h f : Int32) : Int32 := if h < f then f - h else 0
def bakedF (h f : Int32) : Int32 := if h < f then f - h + 2 else 0
def crk (k h c f t : Int32) : Int32 :=
  if k = 1 then plainF h f / 2
  else if k = 2 then bakedF h f
  else if k = 3 then (if 2 < plainF h f / 2 then 2 else plainF h f / 2)
  else if k = 4 then (if bakedF h f = 0 then 0 else bakedF h f + c)
  else if k = 5 then (if irm t 2 = 1 ∧ 0 < plainF h f then plainF h f - 1 else plainF h f)
  else plainF h f
/-- players, nuts, the number -/
def yNut (r : Nat → Int32) (i : Int32) : Bool := decide (0 ≤ i) && decide (i < r 2)
def yPl (r : Nat → Int32) (i : Int32) : Bool := decide (0 ≤ i) && decide (i < r 1)
def yBrk (r : Nat → Int32) (i : Int32) : Bool := yNut r i && decide (10 ≤ r (33 + cl i))
def yWhl (r : Nat → Int32) (i : Int32) : Bool := yNut r i && decide (r (33 + cl i) < 10)
def yWof (r : Nat → Int32) (i p : Int32) : Bool := yWhl r i && decide (r (9 + cl i) = p)
def yCan (r : Nat → Int32) (i j : Int32) : Bool := yNut r i && yNut r j && decide ¬ r (9 + cl i) = r (9 + cl j) && decide (r (33 + cl i) < 10) && decide (r (33 + cl j) < 10)
def yNext (r : Nat → Int32) : Int32 := if r 0 < 9999 then r 0 + 1 else 9999
theorem in_nut {i n : Int32} (h0 : ¬ i < 0) (h1 : i < n) (h2 : n.toInt ≤ 6) : vp_in i 6 := by
  rw [vp_in_iff]
  rw [Int32.lt_iff_toInt_lt] at h0 h1
  simp only [Int32.toInt_zero] at h0
  omega
theorem yNut_in {r : Nat → Int32} {i : Int32} (h : yNut r i = true) (h2 : (r 2).toInt ≤ 6) : vp_in i 6 := by
  simp only [yNut, Bool.and_eq_true, decide_eq_true_eq] at h
  exact in_nut (Int32.not_lt.mpr h.1) h.2 h2
theorem yWhl_nut {r : Nat → Int32} {i : Int32} (h : yWhl r i = true) : yNut r i = true := by simp only [yWhl, Bool.and_eq_true] at h; exact h.1
theorem yBrk_nut {r : Nat → Int32} {i : Int32} (h : yBrk r i = true) : yNut r i = true := by simp only [yBrk, Bool.and_eq_true] at h; exact h.1
theorem yWof_whl {r : Nat → Int32} {i p : Int32} (h : yWof r i p = true) : yWhl r i = true := by simp only [yWof, Bool.and_eq_true] at h; exact h.1
theorem yWhl_in {r : Nat → Int32} {i : Int32} (h : yWhl r i = true) (h2 : (r 2).toInt ≤ 6) : vp_in i 6 := yNut_in (yWhl_nut h) h2
theorem yBrk_in {r : Nat → Int32} {i : Int32} (h : yBrk r i = true) (h2 : (r 2).toInt ≤ 6) : vp_in i 6 := yNut_in (yBrk_nut h) h2
theorem yWof_in {r : Nat → Int32} {i p : Int32} (h : yWof r i p = true) (h2 : (r 2).toInt ≤ 6) : vp_in i 6 := yWhl_in (yWof_whl h) h2
theorem yCan_nut {r : Nat → Int32} {i j : Int32} (h : yCan r i j = true) : yNut r i = true ∧ yNut r j = true := by simp only [yCan, Bool.and_eq_true] at h; exact ⟨h.1.1.1.1, h.1.1.1.2⟩
theorem yCan_in1 {r : Nat → Int32} {i j : Int32} (h : yCan r i j = true) (h2 : (r 2).toInt ≤ 6) : vp_in i 6 := yNut_in (yCan_nut h).1 h2
theorem yCan_in2 {r : Nat → Int32} {i j : Int32} (h : yCan r i j = true) (h2 : (r 2).toInt ≤ 6) : vp_in j 6 := yNut_in (yCan_nut h).2 h2
theorem yPl_in {r : Nat → Int32} {i : Int32} (h : yPl r i = true) (h2 : (r 1).toInt ≤ 3) : vp_in i 3 := by
  simp only [yPl, Bool.and_eq_true, decide_eq_true_eq] at h
  rw [vp_in_iff]
  rw [Int32.le_iff_toInt_le, Int32.lt_iff_toInt_lt, Int32.toInt_zero] at h
  omega
theorem ti_add {a b : Int32} (h : -2147483648 ≤ a.toInt + b.toInt) (h' : a.toInt + b.toInt < 2147483648) : (a + b).toInt = a.toInt + b.toInt := by
  rw [Int32.toInt_add]
  show Int.bmod _ 4294967296 = _
  unfold Int.bmod
  dsimp only
  split <;> omega
theorem yNext_eq {r : Nat → Int32} (h0 : 0 ≤ (r 0).toInt ∧ (r 0).toInt ≤ 9999) : (if r 0 + 1 < 9999 then r 0 + 1 else 9999) = yNext r := by
  have e : (r 0 + 1).toInt = (r 0).toInt + 1 := ti_add (by show _ ≤ _ + 1; omega) (by show _ + 1 < _; omega)
  have e9 : (9999 : Int32).toInt = 9999 := rfl
  unfold yNext
  by_cases h1 : r 0 < 9999
  · rw [if_pos h1]
    rw [Int32.lt_iff_toInt_lt] at h1
    by_cases h2 : r 0 + 1 < 9999
    · rw [if_pos h2]
    · rw [if_neg h2]
      rw [Int32.lt_iff_toInt_lt] at h2
      apply Int32.toInt_inj.mp
      omega
  · rw [if_neg h1, if_neg]
    rw [Int32.lt_iff_toInt_lt] at h1 ⊢
    omega
