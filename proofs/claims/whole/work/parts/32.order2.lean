/-- rows that differ in number, cracks and scores alone -/
def Ag (x y : Nat → Int32) : Prop := ∀ k, 1 ≤ k → k < 33 → y k = x k
theorem Ag_rf {x : Nat → Int32} : Ag x x := fun _ _ _ => rfl
theorem Ag_tr {x y z : Nat → Int32} (h : Ag x y) (h' : Ag y z) : Ag x z := fun k h1 h2 => (h' k h1 h2).trans (h k h1 h2)
theorem Ag_tr2 {x y z : Nat → Int32} (h : Ag x y) (h' : Ag x z) : Ag y z := fun k h1 h2 => (h' k h1 h2).trans (h k h1 h2).symm
theorem chg_ag {r y : Nat → Int32} (h : Ag r y) : chg y r = r := by
  funext k
  unfold chg
  by_cases hk : k = 0 ∨ 33 ≤ k
  · rw [if_pos hk]
  · rw [if_neg hk]; exact h k (by omega) (by omega)
theorem stk_ag {r : Nat → Int32} {i j : Int32} : Ag r (stk r i j) := by
  intro k h1 h2
  rw [stk_lo (by omega)]
  unfold stk3
  rw [upd_ne (by omega), upd_ne (by omega), upd_ne (by omega)]
theorem fgs_ag {b : Bool} {i j : Int32} {n : Nat} {r : Nat → Int32} : Ag r (fgs b i j n r) := by
  unfold fgs
  by_cases hk : fgk b n = true
  · rw [if_pos hk]; exact stk_ag
  · rw [if_neg hk]; exact stk_ag
theorem Ag_fgt {b : Bool} {i j : Int32} : ∀ {m n : Nat} {r : Nat → Int32}, Ag r (fgt b i j m n r).2
  | 0, _, _ => Ag_rf
  | m + 1, n, r => by
    unfold fgt
    by_cases hc : fgc b i j n r = true
    · rw [if_pos hc]
      by_cases hb : yBrk (fgs b i j n r) i = true ∨ yBrk (fgs b i j n r) j = true
      · rw [if_pos hb]; exact fgs_ag
      · rw [if_neg hb]; exact Ag_tr fgs_ag Ag_fgt
    · rw [if_neg hc]; exact Ag_rf
abbrev S4 : Type := Int32 × Int32 × (Nat → Int32) × (Nat → Int32)
def kbS (s d : Int32) (z : S4) : S4 := (if kbB s d z.1 z.2.1 = true then s else z.1, if kbB s d z.1 z.2.1 = true then d else z.2.1, z.2.2.1, if kbB s d z.1 z.2.1 = true then z.2.2.1 else z.2.2.2)
def fld (f : Nat → S4 → S4) : Nat → S4 → S4
  | 0, z => z
  | n + 1, z => f n (fld f n z)
/-- all orders gone through, rising -/
def mtF (i : Int32) : Nat → Nat → (Nat → Int32) → Int32 → S4 → S4
  | 0, _, r, tm, z => if tm = 0 then kbS (yFact r i 5) (yFact r i 4) z else z
  | d + 1, M, r, tm, z => if tm = 0 then kbS (yFact r i 5) (yFact r i 4) z else fld (fun j z => if hasB tm (nI j) = true then mtF i d (M + 1) (fgt true i (nI j) 60 0 r).2 (tm &&& ((1 : Int32) <<< (nI j &&& 31) ^^^ (-1))) (z.1, z.2.1, upd z.2.2.1 M (nI j), z.2.2.2) else z) 6 z
def mtS (i : Int32) (d M : Nat) (r : Nat → Int32) (tm : Int32) : Nat → S4 → S4 := fun j z => if hasB tm (nI j) = true then mtF i d (M + 1) (fgt true i (nI j) 60 0 r).2 (tm &&& ((1 : Int32) <<< (nI j &&& 31) ^^^ (-1))) (z.1, z.2.1, upd z.2.2.1 M (nI j), z.2.2.2) else z
theorem mtF_0 {i : Int32} {d M : Nat} {r : Nat → Int32} {tm : Int32} {z : S4} (h : tm = 0) : mtF i d M r tm z = kbS (yFact r i 5) (yFact r i 4) z := by
  cases d with
  | zero => show (if _ then _ else _) = _; rw [if_pos h]
  | succ d => show (if _ then _ else _) = _; rw [if_pos h]
theorem mtF_z {i : Int32} {M : Nat} {r : Nat → Int32} {tm : Int32} {z : S4} (h : ¬ tm = 0) : mtF i 0 M r tm z = z := by
  show (if _ then _ else _) = _
  rw [if_neg h]
theorem mtF_s {i : Int32} {d M : Nat} {r : Nat → Int32} {tm : Int32} {z : S4} (h : ¬ tm = 0) : mtF i (d + 1) M r tm z = fld (mtS i d M r tm) 6 z := by
  show (if _ then _ else _) = _
  rw [if_neg h]
  rfl
theorem mtS_t {i : Int32} {d M n : Nat} {r : Nat → Int32} {tm : Int32} {z : S4} (h : hasB tm (nI n) = true) : fld (mtS i d M r tm) (n + 1) z = mtF i d (M + 1) (fgt true i (nI n) 60 0 r).2 (tm &&& ((1 : Int32) <<< (nI n &&& 31) ^^^ (-1))) ((fld (mtS i d M r tm) n z).1, (fld (mtS i d M r tm) n z).2.1, upd (fld (mtS i d M r tm) n z).2.2.1 M (nI n), (fld (mtS i d M r tm) n z).2.2.2) := by
  show mtS i d M r tm n (fld (mtS i d M r tm) n z) = _
  generalize fld (mtS i d M r tm) n z = w
  show (if _ then _ else _) = _
  rw [if_pos h]
theorem mtS_f {i : Int32} {d M n : Nat} {r : Nat → Int32} {tm : Int32} {z : S4} (h : hasB tm (nI n) = false) : fld (mtS i d M r tm) (n + 1) z = fld (mtS i d M r tm) n z := by
  show mtS i d M r tm n (fld (mtS i d M r tm) n z) = _
  generalize fld (mtS i d M r tm) n z = w
  show (if _ then _ else _) = _
  rw [if_neg (by rw [h]; decide)]
