theorem w_nI {w : Int32} (h : wth w 0 7 = true) (h7 : ¬ w = 7) (h6 : ¬ w = 6) : ∃ k : Nat, k < 6 ∧ w = nI k := by
  rw [wth_ti, show (0 : Int32).toInt = 0 from rfl, show (7 : Int32).toInt = 7 from rfl] at h
  obtain ⟨k, h1, h2, h3⟩ := nI_ofT h.1
  refine ⟨k, ?_, h2⟩
  have e7 : k ≠ 7 := fun e => h7 (by rw [h2, e]; rfl)
  have e6 : k ≠ 6 := fun e => h6 (by rw [h2, e]; rfl)
  omega
theorem yFact_k {r : Nat → Int32} {i : Int32} {k : Nat} (h : yNut r i = true) (hk : k < 6) : yFact r i (nI k) = r (9 + 6 * k + cl i) := by
  unfold yFact
  rw [if_pos h]
  match k, hk with
  | 0, _ => rfl
  | 1, _ => rfl
  | 2, _ => rfl
  | 3, _ => rfl
  | 4, _ => rfl
  | 5, _ => rfl
def mPF (r : Nat → Int32) (q w : Int32) : Int32 := if w = 0 then r (3 + cl q) else if w = 1 then r (6 + cl q) else if w = 2 then setB (fun j => yWof r (nI j) q) (cl (r 2)) else sumI (fun j => hasB (setB (fun j => yWof r (nI j) q) (cl (r 2))) (nI j)) (fun j => r (39 + j)) (cl (r 2))
def enM (z : Nat × (Nat → Int32)) (i j w : Int32) : Int32 := if btX z i j = -1 then -1 else if w = 0 then btX z i j else if w = 1 then mLeft z.2 i j else if mLeft z.2 i j = -1 then -1 else z.2 (39 + cl (mLeft z.2 i j))
theorem mL_in {r : Nat → Int32} {i j : Int32} (h : ¬ mLeft r i j = -1) (hi : vp_in i 6) (hj : vp_in j 6) : vp_in (mLeft r i j) 6 := by
  unfold mLeft at h ⊢
  by_cases h1 : mBrk r i = mBrk r j
  · rw [if_pos h1] at h; exact absurd rfl h
  · rw [if_neg h1]
    by_cases h2 : mBrk r i = true
    · rw [if_pos h2]; exact hj
    · rw [if_neg h2]; exact hi
