theorem pl_bd3 {r : Nat → Int32} (hw : Wf r) (h : ¬ r 1 = 3) : bd (r 1) 0 2 := by
  have h1 := hw.2.1
  unfold bd at h1 ⊢
  have : (r 1).toInt ≠ 3 := fun e => h (Int32.toInt_inj.mp e)
  omega
theorem nu_bd6 {r : Nat → Int32} (hw : Wf r) (h : ¬ r 2 = 6) : bd (r 2) 0 5 := by
  have h1 := hw.2.2.1
  unfold bd at h1 ⊢
  have : (r 2).toInt ≠ 6 := fun e => h (Int32.toInt_inj.mp e)
  omega
theorem pl_w {r : Nat → Int32} {i : Int32} (hw : Wf r) : wth i 0 (r 1 - 1) = yPl r i := by
  have h := hw.2.1
  unfold bd at h
  have e : (r 1 - 1).toInt = (r 1).toInt - 1 := ti_sub (by show _ ≤ _ - 1; omega) (by show _ - 1 < _; omega)
  apply Bool.eq_iff_iff.mpr
  rw [wth_ti, yPl_ti, e, Int32.toInt_zero]
  omega
