def xW (g : gG) (a : Nat → Nat) (N : Nat) (flt : Int32) (f : Nat → Int32) (so : Int32) (sta : Nat) (beh : Nat) (va : Int32) : va_W := [(a 0, .inr (4, [.int (nI N), .int flt, .ref (a 1), .int so, .int (nI sta), .int (nI beh), .int va])), (a 1, .inl (g.2.1, 150, .inl f))]
theorem xW_adr {g : gG} {a : Nat → Nat} {N N' : Nat} {flt flt' : Int32} {f f' : Nat → Int32} {so so' : Int32} {sta sta' : Nat} {beh beh' : Nat} {va va' : Int32} : (xW g a N flt f so sta beh va).map Prod.fst = (xW g a N' flt' f' so' sta' beh' va').map Prod.fst := rfl
theorem xW_arr1 {g : gG} {a : Nat → Nat} {N : Nat} {flt : Int32} {f : Nat → Int32} {so : Int32} {sta : Nat} {beh : Nat} {va : Int32} {h : Nat → Int32} (e : ∀ j, j < 150 → f j = h j) : ∀ H, kP g (xW g a N flt f so sta beh va) H → kP g (xW g a N flt h so sta beh va) H := by
  intro H h1
  simp only [xW, kP_cons] at h1 ⊢
  exact ⟨h1.1, va_arr_congr e (h1.2.1), h1.2.2⟩
/-- a byte of the text, none behind its end; how far a scan goes -/
def bAt (f : Nat → Int32) (N k : Nat) : Int32 := if k < N then f k else -1
def scn (p : Nat → Bool) (N : Nat) : Nat → Nat → Nat
  | 0, s => s
  | m + 1, s => if s < N ∧ p s = true then scn p N m (s + 1) else s
def skF (p : Nat → Bool) (N s : Nat) : Nat := scn p N (N - s) s
theorem skF_go {p : Nat → Bool} {N s : Nat} (h : s < N) (hp : p s = true) : skF p N s = skF p N (s + 1) := by
  unfold skF
  rw [show N - s = (N - (s + 1)) + 1 by omega]
  show (if _ then _ else _) = _
  rw [if_pos ⟨h, hp⟩]
theorem skF_stop {p : Nat → Bool} {N s : Nat} (h : ¬ (s < N ∧ p s = true)) : skF p N s = s := by
  unfold skF
  cases N - s with
  | zero => rfl
  | succ m =>
    show (if _ then _ else _) = _
    rw [if_neg h]
theorem scn_ge {p : Nat → Bool} {N : Nat} : ∀ {m s : Nat}, s ≤ scn p N m s
  | 0, s => Nat.le_refl s
  | m + 1, s => by
    show s ≤ (if _ then _ else _)
    by_cases h : s < N ∧ p s = true
    · rw [if_pos h]; exact Nat.le_trans (Nat.le_succ s) scn_ge
    · rw [if_neg h]; exact Nat.le_refl s
theorem scn_le {p : Nat → Bool} {N : Nat} : ∀ {m s : Nat}, s ≤ N → scn p N m s ≤ N
  | 0, s, h => h
  | m + 1, s, h => by
    show (if _ then _ else _) ≤ N
    by_cases h2 : s < N ∧ p s = true
    · rw [if_pos h2]; exact scn_le (by omega)
    · rw [if_neg h2]; exact h
theorem skF_ge {p : Nat → Bool} {N s : Nat} : s ≤ skF p N s := scn_ge
theorem skF_le {p : Nat → Bool} {N s : Nat} (h : s ≤ N) : skF p N s ≤ N := scn_le h
/-- the number that the figures from s to e are, the last two of them -/
def nuV (f : Nat → Int32) (N s e : Nat) : Int32 := if e - s = 2 then bAt f N (e - 1) - 48 + 10 * (bAt f N s - 48) else bAt f N (e - 1) - 48
