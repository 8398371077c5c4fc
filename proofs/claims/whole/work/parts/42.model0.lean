/-- a row of numbers by itself -/
def aW (g : gG) (a n : Nat) (f : Nat → Int32) : va_W := [(a, .inl (g.2.1, n, .inl f))]
theorem aW_adr {g : gG} {a n : Nat} {f h : Nat → Int32} : (aW g a n f).map Prod.fst = (aW g a n h).map Prod.fst := rfl
theorem aW_arr {g : gG} {a n : Nat} {f h : Nat → Int32} (e : ∀ j, j < n → f j = h j) : ∀ H, kP g (aW g a n f) H → kP g (aW g a n h) H := by
  intro H h1
  simp only [aW, kP_cons] at h1 ⊢
  exact ⟨va_arr_congr e h1.1, h1.2⟩
theorem vp_nI {i : Int32} {n : Nat} (h : vp_in i n) : ∃ k : Nat, k < n ∧ i = nI k ∧ cl i = k := by
  rw [vp_in_iff] at h
  obtain ⟨k, h1, h2, h3⟩ := nI_ofT h.1
  exact ⟨k, by omega, h2, by rw [h2]; exact cl_nI h1⟩
theorem ix_in {i : Int32} {n K M : Nat} (h : vp_in i n) (hM : K + n ≤ M) (hb : M < 2147483648) : vp_in (nI K + i) M := by
  obtain ⟨k, h1, h2, h3⟩ := vp_nI h
  rw [h2, nI_add]
  exact vp_in_nI (by omega) hb
theorem ix_cl {i : Int32} {n K : Nat} (h : vp_in i n) (hM : K + n < 2147483648) : cl (nI K + i) = K + cl i := by
  obtain ⟨k, h1, h2, h3⟩ := vp_nI h
  rw [h3, h2, nI_add]
  exact cl_nI (by omega)
theorem hasB_1 {b k : Int32} : hasB b k = decide ((b >>> (k &&& 31)) &&& 1 = 1) := by
  unfold hasB
  obtain ⟨j, hj, e⟩ := pk_andE (b >>> (k &&& 31)) (m := 1) 1 (by decide)
  rw [e]
  match j, hj with
  | 0, _ => decide
  | 1, _ => decide
theorem nut_w {r : Nat → Int32} {i : Int32} (hw : Wf r) : wth i 0 (r 2 - 1) = yNut r i := by
  have h := hw.2.2.1
  unfold bd at h
  have e : (r 2 - 1).toInt = (r 2).toInt - 1 := ti_sub (by show _ ≤ _ - 1; omega) (by show _ - 1 < _; omega)
  apply Bool.eq_iff_iff.mpr
  rw [wth_ti, yNut_ti, e, Int32.toInt_zero]
  omega
def mBrk (r : Nat → Int32) (i : Int32) : Bool := decide (10 ≤ r (33 + cl i))
theorem yCan_m {r : Nat → Int32} {i j : Int32} : yCan r i j = (yNut r i && yNut r j && decide ¬ r (9 + cl i) = r (9 + cl j) && !mBrk r i && !mBrk r j) := by
  unfold yCan mBrk
  simp only [← decide_not, Int32.not_le]
def mLeft (r : Nat → Int32) (i j : Int32) : Int32 := if mBrk r i = mBrk r j then -1 else if mBrk r i = true then j else i
theorem fo_0 {r : Nat → Int32} {i t v : Int32} {k : Nat} (h : k = 0) : fo (upd r k v) i t = fo r i t := by
  subst h
  unfold fo
  rw [upd_ne (by omega), upd_ne (by omega), upd_ne (by omega), upd_ne (by omega)]
theorem stk_eq {r : Nat → Int32} {i j : Int32} (h : mBrk (stk3 r i j) i = mBrk (stk3 r i j) j) : stk r i j = stk3 r i j := by
  unfold mBrk at h
  rw [decide_eq_decide] at h
  unfold stk
  by_cases h1 : 10 ≤ stk3 r i j (33 + cl i)
  · rw [if_pos h1, if_pos (h.mp h1)]
  · rw [if_neg h1, if_neg (fun z => h1 (h.mpr z))]
theorem stk_ji {r : Nat → Int32} {i j : Int32} (h : ¬ mBrk (stk3 r i j) i = mBrk (stk3 r i j) j) (hi : mBrk (stk3 r i j) i = true) : stk r i j = scF (stk3 r i j) j i := by
  rw [hi] at h
  have hj : mBrk (stk3 r i j) j = false := by cases e : mBrk (stk3 r i j) j; rfl; exact absurd e.symm h
  unfold mBrk at hi hj
  unfold stk
  rw [if_pos (of_decide_eq_true hi), if_neg (of_decide_eq_false hj)]
theorem stk_ij {r : Nat → Int32} {i j : Int32} (h : ¬ mBrk (stk3 r i j) i = mBrk (stk3 r i j) j) (hi : mBrk (stk3 r i j) i = false) : stk r i j = scF (stk3 r i j) i j := by
  rw [hi] at h
  have hj : mBrk (stk3 r i j) j = true := by cases e : mBrk (stk3 r i j) j; exact absurd e.symm h; rfl
  unfold mBrk at hi hj
  unfold stk
  rw [if_neg (of_decide_eq_false hi), if_pos (of_decide_eq_true hj)]
