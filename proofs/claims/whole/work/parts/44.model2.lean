def cpF (r q : Nat → Int32) (n : Nat) : Nat → Int32 := fun k => if k < n then r k else q k
theorem cpF_0 {r q : Nat → Int32} : cpF r q 0 = q := by funext k; exact if_neg (Nat.not_lt_zero k)
theorem cpF_s {r q : Nat → Int32} {n : Nat} : cpF r q (n + 1) = upd (cpF r q n) n (r n) := by
  funext k
  unfold cpF upd
  by_cases h : k = n
  · rw [if_pos h, if_pos (by omega), h]
  · rw [if_neg h]
    show (if k < n + 1 then r k else q k) = (if k < n then r k else q k)
    by_cases h2 : k < n
    · rw [if_pos h2, if_pos (by omega)]
    · rw [if_neg (by omega), if_neg h2]
theorem cpF_in {r q : Nat → Int32} {n j : Nat} (h : j < n) : cpF r q n j = r j := if_pos h
/-- bouts, as the reference counts them -/
def btF (b : Bool) (i j : Int32) : Nat → Nat → (Nat → Int32) → Nat × (Nat → Int32)
  | 0, n, r => (n, r)
  | m + 1, n, r => if yCan r i j = true then btF b i j m (n + 1) (fgs b i j n r) else (n, r)
def btX (z : Nat × (Nat → Int32)) (i j : Int32) : Int32 := if mBrk z.2 i = true ∨ mBrk z.2 j = true then nI z.1 else -1
theorem btF_go {b : Bool} {i j : Int32} {n : Nat} {r : Nat → Int32} (hn : n < 60) (hc : yCan r i j = true) : btF b i j (60 - n) n r = btF b i j (60 - (n + 1)) (n + 1) (fgs b i j n r) := by
  rw [show 60 - n = (60 - (n + 1)) + 1 by omega]
  show (if _ then _ else _) = _
  rw [if_pos hc]
theorem btF_no {b : Bool} {i j : Int32} {n : Nat} {r : Nat → Int32} (hc : yCan r i j = false) : btF b i j (60 - n) n r = (n, r) := by
  cases 60 - n with
  | zero => rfl
  | succ m =>
    show (if _ then _ else _) = _
    rw [if_neg (by rw [hc]; decide)]
theorem btF_end {b : Bool} {i j : Int32} {n : Nat} {r : Nat → Int32} (hn : 60 ≤ n) : btF b i j (60 - n) n r = (n, r) := by
  rw [show 60 - n = 0 by omega]; rfl
theorem yCan_sym {r : Nat → Int32} {i j : Int32} (h : yCan r i j = true) : yCan r j i = true := by
  simp only [yCan, Bool.and_eq_true, decide_eq_true_eq] at h ⊢
  exact ⟨⟨⟨⟨h.1.1.1.2, h.1.1.1.1⟩, fun z => h.1.1.2 z.symm⟩, h.2⟩, h.1.2⟩
theorem Wf_fgsM {b : Bool} {i j : Int32} {n : Nat} {r : Nat → Int32} (h : Wf r) (hc : yCan r i j = true) : Wf (fgs b i j n r) := by
  unfold fgs
  by_cases hk : fgk b n = true
  · rw [if_pos hk]; exact Wf_stk h (yCan_nut hc).2 (yCan_nut hc).1
  · rw [if_neg hk]; exact Wf_stk h (yCan_nut hc).1 (yCan_nut hc).2
