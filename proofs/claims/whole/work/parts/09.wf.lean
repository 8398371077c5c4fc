/-! ===== bounds; a row of a yard that is well formed; a strike ===== -/
def bd (x : Int32) (lo hi : Int) : Prop := lo ≤ x.toInt ∧ x.toInt ≤ hi
theorem ti_sub {a b : Int32} (h : -2147483648 ≤ a.toInt - b.toInt) (h' : a.toInt - b.toInt < 2147483648) : (a - b).toInt = a.toInt - b.toInt := by
  rw [Int32.toInt_sub]
  show Int.bmod _ 4294967296 = _
  unfold Int.bmod
  dsimp only
  split <;> omega
theorem ti_mul {a b : Int32} (h : -2147483648 ≤ a.toInt * b.toInt) (h' : a.toInt * b.toInt < 2147483648) : (a * b).toInt = a.toInt * b.toInt := by
  rw [Int32.toInt_mul]
  show Int.bmod _ 4294967296 = _
  unfold Int.bmod
  dsimp only
  generalize a.toInt * b.toInt = z at *
  split <;> omega
theorem nI_ofT {x : Int32} (h : 0 ≤ x.toInt) : ∃ n : Nat, n < 2147483648 ∧ x = nI n ∧ x.toInt = n := by
  obtain ⟨n, h1, h2⟩ := nI_of (x := x) (by rw [Int32.lt_iff_toInt_lt, Int32.toInt_zero]; omega)
  exact ⟨n, h1, h2, by rw [h2]; exact nI_toInt h1⟩
theorem ti_div {x : Int32} {d : Nat} (h : 0 ≤ x.toInt) (h0 : 0 < d) (hd : d < 2147483648) : (x / nI d).toInt = x.toInt / d := by
  obtain ⟨n, h1, h2, h3⟩ := nI_ofT h
  rw [h3, h2, pk_div h1 h0 hd, nI_toInt (by have := Nat.div_le_self n d; omega)]
  rfl
theorem bd_lit (n : Nat) (h : n < 2147483648) : (nI n).toInt = n := nI_toInt h
theorem frc_bd {k a w t : Int32} (ha : bd a 0 9) (hw : bd w 0 9) (ht : bd t 0 9999) : bd (frc k a w t) 0 44 := by
  unfold bd at *
  have l1 : (1 : Int32).toInt = 1 := rfl
  have l2 : (2 : Int32).toInt = 2 := rfl
  have l3 : (3 : Int32).toInt = 3 := rfl
  have l4 : (4 : Int32).toInt = 4 := rfl
  have e1 : (a + w).toInt = a.toInt + w.toInt := ti_add (by omega) (by omega)
  have e2 : (a + w + 3).toInt = a.toInt + w.toInt + 3 := by rw [ti_add (by omega) (by omega)]; omega
  have e3 : (a + w + 4).toInt = a.toInt + w.toInt + 4 := by rw [ti_add (by omega) (by omega)]; omega
  have e4 : (a + w + 1).toInt = a.toInt + w.toInt + 1 := by rw [ti_add (by omega) (by omega)]; omega
  have e5 : ((a + w + 1) / 2).toInt = (a.toInt + w.toInt + 1) / 2 := by
    rw [show (2 : Int32) = nI 2 from rfl, ti_div (by omega) (by omega) (by omega), e4]; rfl
  have e6 : (t / 5).toInt = t.toInt / 5 := by
    rw [show (5 : Int32) = nI 5 from rfl, ti_div (by omega) (by omega) (by omega)]; rfl
  have e7 : (a + w + 3 - t / 5).toInt = a.toInt + w.toInt + 3 - t.toInt / 5 := by rw [ti_sub (by omega) (by omega)]; omega
  have e8 : (2 * (a + w)).toInt = 2 * (a.toInt + w.toInt) := by rw [ti_mul (by rw [l2, e1]; omega) (by rw [l2, e1]; omega), l2, e1]
  have e9 : (2 * (a + w + 4)).toInt = 2 * (a.toInt + w.toInt + 4) := by rw [ti_mul (by rw [l2, e3]; omega) (by rw [l2, e3]; omega), l2, e3]
  unfold frc
  split
  · omega
  · split
    · split <;> omega
    · split
      · split
        · rename_i h; rw [Int32.lt_iff_toInt_lt] at h; omega
        · omega
      · split
        · omega
        · split
          · split
            · split <;> omega
            · split <;> omega
          · omega
theorem plainF_ti {h f : Int32} (hh : bd h 0 9) (hf : bd f 0 44) : (plainF h f).toInt = if h.toInt < f.toInt then f.toInt - h.toInt else 0 := by
  unfold bd at *
  unfold plainF
  by_cases q : h < f
  · rw [if_pos q]
    rw [Int32.lt_iff_toInt_lt] at q
    rw [if_pos q]
    exact ti_sub (by omega) (by omega)
  · rw [if_neg q]
    rw [Int32.lt_iff_toInt_lt] at q
    rw [if_neg q]
    rfl
theorem bakedF_ti {h f : Int32} (hh : bd h 0 9) (hf : bd f 0 44) : (bakedF h f).toInt = if h.toInt < f.toInt then f.toInt - h.toInt + 2 else 0 := by
  unfold bd at *
  have l2 : (2 : Int32).toInt = 2 := rfl
  unfold bakedF
  by_cases q : h < f
  · rw [if_pos q]
    rw [Int32.lt_iff_toInt_lt] at q
    rw [if_pos q]
    have e : (f - h).toInt = f.toInt - h.toInt := ti_sub (by omega) (by omega)
    rw [ti_add (by omega) (by omega)]
    omega
  · rw [if_neg q]
    rw [Int32.lt_iff_toInt_lt] at q
    rw [if_neg q]
    rfl
theorem crk_bd {k h c f t : Int32} (hh : bd h 0 9) (hc : bd c 0 10) (hf : bd f 0 44) : bd (crk k h c f t) 0 56 := by
  have p := plainF_ti hh hf
  have b := bakedF_ti hh hf
  have hp : 0 ≤ (plainF h f).toInt ∧ (plainF h f).toInt ≤ 44 := by unfold bd at *; rw [p]; split <;> omega
  have hb : 0 ≤ (bakedF h f).toInt ∧ (bakedF h f).toInt ≤ 46 := by unfold bd at *; rw [b]; split <;> omega
  have e2 : (plainF h f / 2).toInt = (plainF h f).toInt / 2 := by
    rw [show (2 : Int32) = nI 2 from rfl, ti_div (by omega) (by omega) (by omega)]; rfl
  have l2 : (2 : Int32).toInt = 2 := rfl
  have l1 : (1 : Int32).toInt = 1 := rfl
  have l0 : (0 : Int32).toInt = 0 := rfl
  unfold bd at *
  unfold crk
  split
  · omega
  · split
    · omega
    · split
      · split <;> omega
      · split
        · split
          · omega
          · rw [ti_add (by omega) (by omega)]; omega
        · split
          · split
            · rename_i q
              have q2 := q.2
              rw [Int32.lt_iff_toInt_lt] at q2
              rw [ti_sub (by omega) (by omega)]; omega
            · omega
          · omega
/-- well formed -/
def Wf (r : Nat → Int32) : Prop := bd (r 0) 0 9999 ∧ bd (r 1) 0 3 ∧ bd (r 2) 0 6 ∧ (∀ j, j < 3 → bd (r (3 + j)) 0 5 ∧ bd (r (6 + j)) 0 9) ∧ (∀ j, j < 6 → bd (r (9 + j)) 0 2 ∧ bd (r (15 + j)) 0 5 ∧ bd (r (21 + j)) 0 9 ∧ bd (r (27 + j)) 0 9 ∧ bd (r (33 + j)) 0 10 ∧ bd (r (39 + j)) 0 999) ∧ (∀ j : Nat, (j : Int) < (r 2).toInt → (r (9 + j)).toInt < (r 1).toInt)
theorem Wf.n6 {r : Nat → Int32} (h : Wf r) : (r 2).toInt ≤ 6 := h.2.2.1.2
theorem Wf.n3 {r : Nat → Int32} (h : Wf r) : (r 1).toInt ≤ 3 := h.2.1.2
theorem Wf.num {r : Nat → Int32} (h : Wf r) : 0 ≤ (r 0).toInt ∧ (r 0).toInt ≤ 9999 := h.1
theorem cl_ti {i : Int32} (h : 0 ≤ i.toInt) : (cl i : Int) = i.toInt := by
  obtain ⟨n, h1, h2, h3⟩ := nI_ofT h
  rw [h3, h2]
  show ((nI n).toNatClampNeg : Int) = n
  rw [nI_clamp h1]
theorem yNut_ti {r : Nat → Int32} {i : Int32} : yNut r i = true ↔ 0 ≤ i.toInt ∧ i.toInt < (r 2).toInt := by
  simp only [yNut, Bool.and_eq_true, decide_eq_true_eq, Int32.le_iff_toInt_le, Int32.lt_iff_toInt_lt, Int32.toInt_zero]
theorem yPl_ti {r : Nat → Int32} {i : Int32} : yPl r i = true ↔ 0 ≤ i.toInt ∧ i.toInt < (r 1).toInt := by
  simp only [yPl, Bool.and_eq_true, decide_eq_true_eq, Int32.le_iff_toInt_le, Int32.lt_iff_toInt_lt, Int32.toInt_zero]
theorem Wf.own {r : Nat → Int32} (h : Wf r) {i : Int32} (hi : yNut r i = true) : yPl r (r (9 + cl i)) = true := by
  rw [yNut_ti] at hi
  rw [yPl_ti]
  have e := cl_ti hi.1
  have h6 := h.n6
  exact ⟨(h.2.2.2.2.1 (cl i) (by omega)).1.1, h.2.2.2.2.2 (cl i) (by omega)⟩
theorem yNut_cl {r : Nat → Int32} (h : Wf r) {i : Int32} (hi : yNut r i = true) : cl i < 6 := cl_lt (yNut_in hi h.n6)
theorem Wf_0 {r : Nat → Int32} (h : Wf r) {v : Int32} (hv : bd v 0 9999) : Wf (upd r 0 v) := by
  obtain ⟨h0, h1, h2, h3, h4, h5⟩ := h
  have h2' : (r 2).toInt ≤ 6 := h2.2
  refine ⟨by rw [upd_eq]; exact hv, by rw [upd_ne (by omega)]; exact h1, by rw [upd_ne (by omega)]; exact h2, fun q hq => ?_, fun q hq => ?_, fun q hq => ?_⟩
  · rw [upd_ne (by omega), upd_ne (by omega)]; exact h3 q hq
  · rw [upd_ne (by omega), upd_ne (by omega), upd_ne (by omega), upd_ne (by omega), upd_ne (by omega), upd_ne (by omega)]; exact h4 q hq
  · rw [upd_ne (by omega)] at hq
    rw [upd_ne (by omega), upd_ne (by omega)]; exact h5 q hq
theorem Wf_cr {r : Nat → Int32} (h : Wf r) {j : Nat} (hj : j < 6) {v : Int32} (hv : bd v 0 10) : Wf (upd r (33 + j) v) := by
  obtain ⟨h0, h1, h2, h3, h4, h5⟩ := h
  have h2' : (r 2).toInt ≤ 6 := h2.2
  refine ⟨by rw [upd_ne (by omega)]; exact h0, by rw [upd_ne (by omega)]; exact h1, by rw [upd_ne (by omega)]; exact h2, fun q hq => ?_, fun q hq => ?_, fun q hq => ?_⟩
  · rw [upd_ne (by omega), upd_ne (by omega)]; exact h3 q hq
  · obtain ⟨z1, z2, z3, z4, z5, z6⟩ := h4 q hq
    rw [upd_ne (by omega), upd_ne (by omega), upd_ne (by omega), upd_ne (by omega), upd_ne (k := 33 + j) (j := 39 + q) (by omega)]
    refine ⟨z1, z2, z3, z4, ?_, z6⟩
    by_cases e : q = j
    · rw [e, upd_eq]; exact hv
    · rw [upd_ne (by omega)]; exact z5
  · rw [upd_ne (by omega)] at hq
    rw [upd_ne (by omega), upd_ne (by omega)]; exact h5 q hq
theorem Wf_sc {r : Nat → Int32} (h : Wf r) {j : Nat} (hj : j < 6) {v : Int32} (hv : bd v 0 999) : Wf (upd r (39 + j) v) := by
  obtain ⟨h0, h1, h2, h3, h4, h5⟩ := h
  have h2' : (r 2).toInt ≤ 6 := h2.2
  refine ⟨by rw [upd_ne (by omega)]; exact h0, by rw [upd_ne (by omega)]; exact h1, by rw [upd_ne (by omega)]; exact h2, fun q hq => ?_, fun q hq => ?_, fun q hq => ?_⟩
  · rw [upd_ne (by omega), upd_ne (by omega)]; exact h3 q hq
  · obtain ⟨z1, z2, z3, z4, z5, z6⟩ := h4 q hq
    rw [upd_ne (by omega), upd_ne (by omega), upd_ne (by omega), upd_ne (by omega), upd_ne (k := 39 + j) (j := 33 + q) (by omega)]
    refine ⟨z1, z2, z3, z4, z5, ?_⟩
    by_cases e : q = j
    · rw [e, upd_eq]; exact hv
    · rw [upd_ne (by omega)]; exact z6
  · rw [upd_ne (by omega)] at hq
    rw [upd_ne (by omega), upd_ne (by omega)]; exact h5 q hq
theorem Wf_hd {r : Nat → Int32} (h : Wf r) {j : Nat} (hj : j < 6) {v : Int32} (hv : bd v 0 9) : Wf (upd r (21 + j) v) := by
  obtain ⟨h0, h1, h2, h3, h4, h5⟩ := h
  have h2' : (r 2).toInt ≤ 6 := h2.2
  refine ⟨by rw [upd_ne (by omega)]; exact h0, by rw [upd_ne (by omega)]; exact h1, by rw [upd_ne (by omega)]; exact h2, fun q hq => ?_, fun q hq => ?_, fun q hq => ?_⟩
  · rw [upd_ne (by omega), upd_ne (by omega)]; exact h3 q hq
  · obtain ⟨z1, z2, z3, z4, z5, z6⟩ := h4 q hq
    rw [upd_ne (by omega), upd_ne (by omega), upd_ne (k := 21 + j) (j := 27 + q) (by omega), upd_ne (k := 21 + j) (j := 33 + q) (by omega), upd_ne (k := 21 + j) (j := 39 + q) (by omega)]
    refine ⟨z1, z2, ?_, z4, z5, z6⟩
    by_cases e : q = j
    · rw [e, upd_eq]; exact hv
    · rw [upd_ne (by omega)]; exact z3
  · rw [upd_ne (by omega)] at hq
    rw [upd_ne (by omega), upd_ne (by omega)]; exact h5 q hq
theorem Wf_ow {r : Nat → Int32} (h : Wf r) {j : Nat} (hj : j < 6) {v : Int32} (hv : 0 ≤ v.toInt ∧ v.toInt < (r 1).toInt) : Wf (upd r (9 + j) v) := by
  obtain ⟨h0, h1, h2, h3, h4, h5⟩ := h
  have h2' : (r 2).toInt ≤ 6 := h2.2
  have h1' := h1.2
  refine ⟨by rw [upd_ne (by omega)]; exact h0, by rw [upd_ne (by omega)]; exact h1, by rw [upd_ne (by omega)]; exact h2, fun q hq => ?_, fun q hq => ?_, fun q hq => ?_⟩
  · rw [upd_ne (by omega), upd_ne (by omega)]; exact h3 q hq
  · obtain ⟨z1, z2, z3, z4, z5, z6⟩ := h4 q hq
    rw [upd_ne (k := 9 + j) (j := 15 + q) (by omega), upd_ne (k := 9 + j) (j := 21 + q) (by omega), upd_ne (k := 9 + j) (j := 27 + q) (by omega), upd_ne (k := 9 + j) (j := 33 + q) (by omega), upd_ne (k := 9 + j) (j := 39 + q) (by omega)]
    refine ⟨?_, z2, z3, z4, z5, z6⟩
    by_cases e : q = j
    · rw [e, upd_eq]; exact ⟨hv.1, by omega⟩
    · rw [upd_ne (by omega)]; exact z1
  · rw [upd_ne (by omega)] at hq
    rw [upd_ne (k := 9 + j) (j := 1) (by omega)]
    by_cases e : q = j
    · rw [e, upd_eq]; exact hv.2
    · rw [upd_ne (by omega)]; exact h5 q hq
theorem yNext_bd {r : Nat → Int32} (h : Wf r) : bd (yNext r) 0 9999 := by
  have := h.num
  unfold yNext bd
  by_cases q : r 0 < 9999
  · rw [if_pos q]
    rw [Int32.lt_iff_toInt_lt] at q
    have l : (9999 : Int32).toInt = 9999 := rfl
    have l1 : (1 : Int32).toInt = 1 := rfl
    rw [ti_add (by omega) (by omega)]
    omega
  · rw [if_neg q]
    exact ⟨by decide, by decide⟩
/-- the force with which i's player strikes with i in strike t; the cracks of i behind force f -/
def fo (r : Nat → Int32) (i t : Int32) : Int32 := frc (r (3 + cl (r (9 + cl i)))) (r (6 + cl (r (9 + cl i)))) (r (27 + cl i)) t
def crkd (r : Nat → Int32) (i f t : Int32) : Int32 := if 10 < r (33 + cl i) + crk (r (15 + cl i)) (r (21 + cl i)) (r (33 + cl i)) f t then 10 else r (33 + cl i) + crk (r (15 + cl i)) (r (21 + cl i)) (r (33 + cl i)) f t
theorem fo_bd {r : Nat → Int32} (h : Wf r) {i t : Int32} (hi : yNut r i = true) (ht : bd t 0 9999) : bd (fo r i t) 0 44 := by
  have h1 := cl_lt (yPl_in (h.own hi) h.n3)
  have h2 := yNut_cl h hi
  exact frc_bd (h.2.2.2.1 _ h1).2 (h.2.2.2.2.1 _ h2).2.2.2.1 ht
theorem crkd_bd {r : Nat → Int32} (h : Wf r) {i f t : Int32} (hi : yNut r i = true) (hf : bd f 0 44) : bd (crkd r i f t) 0 10 := by
  have h2 := yNut_cl h hi
  have z := h.2.2.2.2.1 _ h2
  have c := crk_bd (k := r (15 + cl i)) (t := t) z.2.2.1 z.2.2.2.2.1 hf
  have c2 := z.2.2.2.2.1
  have l : (10 : Int32).toInt = 10 := rfl
  unfold bd at c c2 ⊢
  unfold crkd
  have e := ti_add (a := r (33 + cl i)) (b := crk (r (15 + cl i)) (r (21 + cl i)) (r (33 + cl i)) f t) (by omega) (by omega)
  split
  · omega
  · rename_i q
    rw [Int32.lt_iff_toInt_lt] at q
    omega
/-- as the class writes the same -/
theorem plain_eq {h f : Int32} (hh : bd h 0 9) (hf : bd f 0 44) : (if 0 < f - h then f - h else 0) = plainF h f := by
  unfold bd at *
  have e : (f - h).toInt = f.toInt - h.toInt := ti_sub (by omega) (by omega)
  unfold plainF
  by_cases q : h < f
  · rw [if_pos q, if_pos]
    rw [Int32.lt_iff_toInt_lt] at q ⊢
    rw [Int32.toInt_zero]
    omega
  · rw [if_neg q, if_neg]
    rw [Int32.lt_iff_toInt_lt] at q ⊢
    rw [Int32.toInt_zero]
    omega
theorem damp_eq {h f : Int32} (hh : bd h 0 9) (hf : bd f 0 44) : (if 0 < plainF h f - 1 then plainF h f - 1 else 0) = (if 0 < plainF h f then plainF h f - 1 else plainF h f) := by
  have p := plainF_ti hh hf
  unfold bd at *
  have l1 : (1 : Int32).toInt = 1 := rfl
  have hp : 0 ≤ (plainF h f).toInt ∧ (plainF h f).toInt ≤ 44 := by rw [p]; split <;> omega
  have e : (plainF h f - 1).toInt = (plainF h f).toInt - 1 := by rw [ti_sub (by omega) (by omega)]; omega
  by_cases q : 0 < plainF h f
  · rw [if_pos q]
    by_cases q2 : 0 < plainF h f - 1
    · rw [if_pos q2]
    · rw [if_neg q2]
      rw [Int32.lt_iff_toInt_lt, Int32.toInt_zero] at q q2
      apply Int32.toInt_inj.mp
      rw [Int32.toInt_zero]
      omega
  · rw [if_neg q]
    rw [Int32.lt_iff_toInt_lt, Int32.toInt_zero] at q
    rw [if_neg (by rw [Int32.lt_iff_toInt_lt, Int32.toInt_zero]; omega)]
    apply Int32.toInt_inj.mp
    rw [Int32.toInt_zero]
    omega
theorem min_eq {x y : Int32} : (if y < x then y else x) = (if x < y then x else y) := by
  by_cases h1 : y < x
  · rw [if_pos h1, if_neg (by rw [Int32.lt_iff_toInt_lt] at *; omega)]
  · rw [if_neg h1]
    by_cases h2 : x < y
    · rw [if_pos h2]
    · rw [if_neg h2]
      rw [Int32.lt_iff_toInt_lt] at h1 h2
      exact Int32.toInt_inj.mp (by omega)
