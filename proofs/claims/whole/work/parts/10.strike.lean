/-! ===== a strike, as the reference writes it ===== -/
def cap999 (x : Int32) : Int32 := if 999 < x then 999 else x
def stk3 (r : Nat → Int32) (i j : Int32) : Nat → Int32 := upd (upd (upd r 0 (yNext r)) (33 + cl j) (crkd r j (fo r i (yNext r)) (yNext r))) (33 + cl i) (crkd r i (fo r i (yNext r) / 2) (yNext r))
def scF (r : Nat → Int32) (i j : Int32) : Nat → Int32 := upd r (39 + cl i) (cap999 (r (39 + cl i) + r (39 + cl j)))
def stk (r : Nat → Int32) (i j : Int32) : Nat → Int32 :=
  if 10 ≤ stk3 r i j (33 + cl i) then (if 10 ≤ stk3 r i j (33 + cl j) then stk3 r i j else scF (stk3 r i j) j i)
  else (if 10 ≤ stk3 r i j (33 + cl j) then scF (stk3 r i j) i j else stk3 r i j)
theorem half_bd {f : Int32} (h : bd f 0 44) : bd (f / 2) 0 44 := by
  unfold bd at *
  rw [show (2 : Int32) = nI 2 from rfl, ti_div h.1 (by omega) (by omega)]
  omega
theorem cap_bd {x y : Int32} (h : bd x 0 999) (h' : bd y 0 999) : bd (cap999 (x + y)) 0 999 := by
  unfold bd at *
  have e := ti_add (a := x) (b := y) (by omega) (by omega)
  have l : (999 : Int32).toInt = 999 := rfl
  unfold cap999
  split
  · omega
  · rename_i q
    rw [Int32.lt_iff_toInt_lt] at q
    omega
theorem Wf_stk3 {r : Nat → Int32} (h : Wf r) {i j : Int32} (hi : yNut r i = true) (hj : yNut r j = true) : Wf (stk3 r i j) :=
  Wf_cr (Wf_cr (Wf_0 h (yNext_bd h)) (yNut_cl h hj) (crkd_bd h hj (fo_bd h hi (yNext_bd h)))) (yNut_cl h hi) (crkd_bd h hi (half_bd (fo_bd h hi (yNext_bd h))))
theorem Wf_scF {r : Nat → Int32} (h : Wf r) {i j : Int32} (hi : cl i < 6) (hj : cl j < 6) : Wf (scF r i j) :=
  Wf_sc h hi (cap_bd (h.2.2.2.2.1 _ hi).2.2.2.2.2 (h.2.2.2.2.1 _ hj).2.2.2.2.2)
theorem Wf_stk {r : Nat → Int32} (h : Wf r) {i j : Int32} (hi : yNut r i = true) (hj : yNut r j = true) : Wf (stk r i j) := by
  have h3 := Wf_stk3 h hi hj
  unfold stk
  split
  · split
    · exact h3
    · exact Wf_scF h3 (yNut_cl h hj) (yNut_cl h hi)
  · split
    · exact Wf_scF h3 (yNut_cl h hi) (yNut_cl h hj)
    · exact h3
theorem stk3_2 {r : Nat → Int32} {i j : Int32} : stk3 r i j 2 = r 2 := by
  unfold stk3; rw [upd_ne (by omega), upd_ne (by omega), upd_ne (by omega)]
theorem stk3_1 {r : Nat → Int32} {i j : Int32} : stk3 r i j 1 = r 1 := by
  unfold stk3; rw [upd_ne (by omega), upd_ne (by omega), upd_ne (by omega)]
theorem scF_lo {r : Nat → Int32} {i j : Int32} {k : Nat} (h : k < 39) : scF r i j k = r k := by
  unfold scF; rw [upd_ne (by omega)]
theorem stk_lo {r : Nat → Int32} {i j : Int32} {k : Nat} (h : k < 39) : stk r i j k = stk3 r i j k := by
  unfold stk
  by_cases h1 : 10 ≤ stk3 r i j (33 + cl i)
  · rw [if_pos h1]
    by_cases h2 : 10 ≤ stk3 r i j (33 + cl j)
    · rw [if_pos h2]
    · rw [if_neg h2, scF_lo h]
  · rw [if_neg h1]
    by_cases h2 : 10 ≤ stk3 r i j (33 + cl j)
    · rw [if_pos h2, scF_lo h]
    · rw [if_neg h2]
theorem stk_2 {r : Nat → Int32} {i j : Int32} : stk r i j 2 = r 2 := (stk_lo (by omega)).trans stk3_2
theorem stk_1 {r : Nat → Int32} {i j : Int32} : stk r i j 1 = r 1 := (stk_lo (by omega)).trans stk3_1
theorem yNut_2 {r q : Nat → Int32} {i : Int32} (h : q 2 = r 2) : yNut q i = yNut r i := by unfold yNut; rw [h]
theorem yCan_ne {r : Nat → Int32} {i j : Int32} (h : yCan r i j = true) : ¬ r (9 + cl i) = r (9 + cl j) := by
  simp only [yCan, Bool.and_eq_true, decide_eq_true_eq] at h
  exact h.1.1.2
theorem yCan_cl {r : Nat → Int32} {i j : Int32} (h : yCan r i j = true) : ¬ cl i = cl j := fun e => yCan_ne h (by rw [e])
theorem yBrk_t {r : Nat → Int32} {i : Int32} (h : yBrk r i = true) : 10 ≤ r (33 + cl i) := by simp only [yBrk, Bool.and_eq_true, decide_eq_true_eq] at h; exact h.2
theorem yBrk_f {r : Nat → Int32} {i : Int32} (hn : yNut r i = true) (h : yBrk r i = false) : ¬ 10 ≤ r (33 + cl i) := by
  intro q; simp [yBrk, hn, q] at h
theorem yWhl_t {r : Nat → Int32} {i : Int32} (h : yWhl r i = true) : ¬ 10 ≤ r (33 + cl i) := by
  simp only [yWhl, Bool.and_eq_true, decide_eq_true_eq] at h; exact Int32.not_le.mpr h.2
theorem yWhl_f {r : Nat → Int32} {i : Int32} (hn : yNut r i = true) (h : yWhl r i = false) : 10 ≤ r (33 + cl i) := by
  apply Classical.byContradiction
  intro q; rw [Int32.not_le] at q; simp [yWhl, hn, q] at h
theorem crkd_ne {r : Nat → Int32} {i f t : Int32} {k : Nat} {v : Int32} (h1 : ¬ 15 + cl i = k) (h2 : ¬ 21 + cl i = k) (h3 : ¬ 33 + cl i = k) : crkd (upd r k v) i f t = crkd r i f t := by
  unfold crkd; rw [upd_ne h1, upd_ne h2, upd_ne h3]
theorem stk_s1 {r : Nat → Int32} {i j : Int32} (hc : yCan r i j = true) : (if yNut (upd r 0 (yNext r)) j = true then upd (upd r 0 (yNext r)) (33 + cl j) (crkd (upd r 0 (yNext r)) j (fo r i (yNext r)) (upd r 0 (yNext r) 0)) else upd r 0 (yNext r)) = upd (upd r 0 (yNext r)) (33 + cl j) (crkd r j (fo r i (yNext r)) (yNext r)) := by
  rw [if_pos (by rw [yNut_2 (r := r) (upd_ne (by omega))]; exact (yCan_nut hc).2), upd_eq, crkd_ne (by omega) (by omega) (by omega)]
theorem stk_s2 {r : Nat → Int32} {i j : Int32} (hw : Wf r) (hc : yCan r i j = true) : (if yNut (upd (upd r 0 (yNext r)) (33 + cl j) (crkd r j (fo r i (yNext r)) (yNext r))) i = true then upd (upd (upd r 0 (yNext r)) (33 + cl j) (crkd r j (fo r i (yNext r)) (yNext r))) (33 + cl i) (crkd (upd (upd r 0 (yNext r)) (33 + cl j) (crkd r j (fo r i (yNext r)) (yNext r))) i (fo r i (yNext r) / 2) (upd (upd r 0 (yNext r)) (33 + cl j) (crkd r j (fo r i (yNext r)) (yNext r)) 0)) else upd (upd r 0 (yNext r)) (33 + cl j) (crkd r j (fo r i (yNext r)) (yNext r))) = stk3 r i j := by
  have h1 := yNut_cl hw (yCan_nut hc).1
  have h2 := yNut_cl hw (yCan_nut hc).2
  have h3 := yCan_cl hc
  rw [if_pos (by rw [yNut_2 (r := r) (by rw [upd_ne (by omega), upd_ne (by omega)])]; exact (yCan_nut hc).1), crkd_ne (by omega) (by omega) (by omega), crkd_ne (by omega) (by omega) (by omega), upd_ne (by omega), upd_eq]
  rfl
