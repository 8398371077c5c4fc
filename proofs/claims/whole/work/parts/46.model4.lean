theorem setB_0 {p : Nat → Bool} {n : Nat} (h : p n = false) : setB p n ||| 0 = setB p (n + 1) := by
  rw [← setB_f h]; exact Int32.or_zero
theorem zr_in {r : Nat → Int32} {t : Int32} {j : Nat} (h : j < 45) : upd (cpF (fun _ => 0) r 45) 0 t j = upd (fun _ => 0) 0 t j := by
  unfold upd
  by_cases h0 : j = 0
  · rw [if_pos h0, if_pos h0]
  · rw [if_neg h0, if_neg h0, cpF_in h]
theorem bits_s : ∀ z, z < 64 → ¬ z = 0 → nI z &&& (nI z - 1) = nI (z &&& (z - 1)) ∧ bcF (nI (z &&& (z - 1))) + 1 = bcF (nI z) ∧ (z &&& (z - 1)) < z := by decide +kernel
