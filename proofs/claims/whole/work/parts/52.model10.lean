theorem cpy_0 {f q : Nat → Int32} {b : Nat} : va_cpy f q 0 b 0 = q := by
  funext k
  unfold va_cpy
  rw [if_neg (by omega)]
theorem cpy_s {f q : Nat → Int32} {b n : Nat} : va_cpy f q 0 b (n + 1) = upd (va_cpy f q 0 b n) (b + n) (f n) := by
  funext k
  unfold va_cpy upd
  by_cases h : k = b + n
  · rw [if_pos h, if_pos (by omega)]
    congr 1
    omega
  · rw [if_neg h]
    show (if b ≤ k ∧ k < b + (n + 1) then f (0 + (k - b)) else q k) = (if b ≤ k ∧ k < b + n then f (0 + (k - b)) else q k)
    by_cases h2 : b ≤ k ∧ k < b + n
    · rw [if_pos h2, if_pos (by omega)]
    · rw [if_neg (by omega), if_neg h2]
