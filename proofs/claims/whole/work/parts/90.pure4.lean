/-! ===== guesses ===== -/
theorem allN_range {p : Nat → Bool} : ∀ n, (List.range n).all p = allN p n
  | 0 => rfl
  | n + 1 => by
    rw [List.range_succ, List.all_append, allN_range n]
    show (allN p n && (p n && true)) = (allN p n && p n)
    rw [Bool.and_true]
theorem allN_ext {p q : Nat → Bool} : ∀ n, (∀ j, j < n → p j = q j) → allN p n = allN q n
  | 0, _ => rfl
  | n + 1, h => by
    have ih := allN_ext n (fun j hj => h j (by omega))
    unfold allN
    rw [ih, h n (Nat.lt_succ_self n)]
theorem or_same {a b : Bool} {P : Prop} [Decidable P] (h : P → a = b) : (!decide P || a) = (!decide P || b) := by
  by_cases hp : P
  · rw [h hp]
  · rw [decide_eq_false hp]; rfl
theorem hards_eq {r q tl f1 f2 f3 : Nat → Int32} {N1 N2 N3 : Nat} {i : Int32} (h : Lv r q) (hT : Tld N1 N2 N3 f1 f2 f3 tl) (hi : yNut r i = true) :
    setB (fun k => allF f1 i (fun n => fit0 r f1 (nI k) n) N1) 10 = setB (fun k => allN (fun n => !decide (tl (1 + 5 * n) = i) || decide (crk (q (15 + cl i)) (nI k) (tl (1 + 5 * n + 2)) (tl (1 + 5 * n + 3)) (tl (1 + 5 * n + 1)) = tl (1 + 5 * n + 4))) N1) 10 := by
  obtain ⟨-, -, -, -, -, -, t4, -⟩ := hT
  refine setB_ext _ fun k _ => ?_
  unfold allF
  rw [allN_range]
  refine allN_ext _ fun n hn => ?_
  have e := t4 n hn
  have e0 : f1 (6 * n) = tl (1 + 5 * n) := e 0 (by decide)
  unfold allK
  rw [e0]
  refine or_same fun hw => ?_
  unfold fit0
  have hy : yFact r i 1 = q (15 + cl i) := (yFact_k (r := r) (k := 1) hi (by decide)).trans (h.at hi).2.1
  dsimp only
  rw [e0, hw, hy, e 1 (by decide), e 2 (by decide), e 3 (by decide), e 4 (by decide)]
theorem kinds_eq {tl f1 f2 f3 : Nat → Int32} {N1 N2 N3 : Nat} {i : Int32} (hT : Tld N1 N2 N3 f1 f2 f3 tl) :
    setB (fun k => allF f2 i (fun n => fit1 f2 (nI k) n) N2) 6 = setB (fun k => allN (fun n => !decide (tl (27 + 6 * n) = i) || decide (crk (nI k) (tl (27 + 6 * n + 1)) (tl (27 + 6 * n + 3)) (tl (27 + 6 * n + 4)) (tl (27 + 6 * n + 2)) = tl (27 + 6 * n + 5))) N2) 6 := by
  obtain ⟨-, -, -, -, -, -, -, t5, -⟩ := hT
  refine setB_ext _ fun k _ => ?_
  unfold allF
  rw [allN_range]
  refine allN_ext _ fun n hn => ?_
  have e := t5 n hn
  have e0 : f2 (6 * n) = tl (27 + 6 * n) := e 0 (by decide)
  unfold allK fit1
  dsimp only
  rw [e0, e 1 (by decide), e 2 (by decide), e 3 (by decide), e 4 (by decide), e 5 (by decide)]
theorem what_eq {tl f1 f2 f3 : Nat → Int32} {N1 N2 N3 : Nat} {i : Int32} (hT : Tld N1 N2 N3 f1 f2 f3 tl) :
    setB (fun k => allF f3 i (fun n => fit2 f3 (nI k) n) N3) 6 = setB (fun k => allN (fun n => !decide (tl (64 + 5 * n) = i) || decide (frc (nI k) (tl (64 + 5 * n + 1)) (tl (64 + 5 * n + 2)) (tl (64 + 5 * n + 3)) = tl (64 + 5 * n + 4))) N3) 6 := by
  obtain ⟨-, -, -, -, -, -, -, -, t6, -⟩ := hT
  refine setB_ext _ fun k _ => ?_
  unfold allF
  rw [allN_range]
  refine allN_ext _ fun n hn => ?_
  have e := t6 n hn
  have e0 : f3 (6 * n) = tl (64 + 5 * n) := e 0 (by decide)
  unfold allK fit2
  dsimp only
  rw [e0, e 1 (by decide), e 2 (by decide), e 3 (by decide), e 4 (by decide)]
/-! the most alike: counting those ahead, or all -/
def cN (p : Nat → Bool) : Nat → Nat
  | 0 => 0
  | n + 1 => cN p n + (if p n = true then 1 else 0)
theorem cN_le {p : Nat → Bool} : ∀ n, cN p n ≤ n
  | 0 => Nat.le_refl 0
  | n + 1 => by
    have := cN_le (p := p) n
    unfold cN
    split <;> omega
theorem cN_mono {p : Nat → Bool} : ∀ {n m : Nat}, n ≤ m → cN p n ≤ cN p m
  | n, 0, h => by rw [show n = 0 by omega]; exact Nat.le_refl _
  | n, m + 1, h => by
    by_cases e : n = m + 1
    · rw [e]; exact Nat.le_refl _
    · have := cN_mono (p := p) (n := n) (m := m) (by omega)
      show cN p n ≤ cN p m + _
      omega
theorem cN_last {p : Nat → Bool} : ∀ n, cN p n = 0 ∨ ∃ k, k < n ∧ p k = true ∧ cN p n = cN p k + 1
  | 0 => Or.inl rfl
  | n + 1 => by
    cases hp : p n with
    | true => exact Or.inr ⟨n, Nat.lt_succ_self n, hp, by show cN p n + (if p n = true then 1 else 0) = _; rw [if_pos hp]⟩
    | false =>
      have e : cN p (n + 1) = cN p n := by show cN p n + (if p n = true then 1 else 0) = _; rw [if_neg (by rw [hp]; decide)]; rfl
      rcases cN_last (p := p) n with h | ⟨k, h1, h2, h3⟩
      · exact Or.inl (e.trans h)
      · exact Or.inr ⟨k, by omega, h2, e.trans h3⟩
theorem cN_ext {p q : Nat → Bool} : ∀ n, (∀ j, j < n → p j = q j) → cN p n = cN q n
  | 0, _ => rfl
  | n + 1, h => by
    have ih := cN_ext n (fun j hj => h j (by omega))
    unfold cN
    rw [ih, h n (Nat.lt_succ_self n)]
theorem cntB_nI {p : Nat → Bool} : ∀ n, cntB p n = nI (cN p n)
  | 0 => rfl
  | n + 1 => by
    have ih := cntB_nI (p := p) n
    unfold cntB cN
    split
    · rw [ih, nI_1]
    · rw [ih]; rfl
/-- the greatest value of those in a set -/
def mxN (s : Nat → Bool) (v : Nat → Nat) : Nat → Nat
  | 0 => 0
  | n + 1 => if s n = true then (if mxN s v n < v n then v n else mxN s v n) else mxN s v n
theorem mxN_ge {s : Nat → Bool} {v : Nat → Nat} : ∀ n k, k < n → s k = true → v k ≤ mxN s v n
  | 0, _, h, _ => absurd h (Nat.not_lt_zero _)
  | n + 1, k, h, hs => by
    unfold mxN
    by_cases e : k = n
    · rw [← e, if_pos hs]
      split
      · exact Nat.le_refl _
      · omega
    · have := mxN_ge (s := s) (v := v) n k (by omega) hs
      split
      · split
        · omega
        · exact this
      · exact this
theorem mxN_le {s : Nat → Bool} {v : Nat → Nat} {M : Nat} : ∀ n, (∀ k, k < n → s k = true → v k ≤ M) → mxN s v n ≤ M
  | 0, _ => Nat.zero_le _
  | n + 1, h => by
    have := mxN_le (s := s) (v := v) (M := M) n (fun k hk => h k (by omega))
    unfold mxN
    split
    · rename_i hs
      split
      · exact h n (Nat.lt_succ_self n) hs
      · exact this
    · exact this
theorem mx_same {s : Nat → Bool} {A : Nat → Int32} {n : Nat} : mxN s (fun k => 1 + cN (fun j => s j && decide (A j = A k)) k) n = mxN s (fun k => cN (fun j => s j && decide (A k = A j)) n) n := by
  apply Nat.le_antisymm
  · refine mxN_le n fun k hk hs => Nat.le_trans ?_ (mxN_ge (s := s) (v := fun k => cN (fun j => s j && decide (A k = A j)) n) n k hk hs)
    have e : cN (fun j => s j && decide (A j = A k)) k = cN (fun j => s j && decide (A k = A j)) k := cN_ext k fun j _ => by rw [decide_eq_decide.mpr (eq_comm : A j = A k ↔ A k = A j)]
    have h1 : cN (fun j => s j && decide (A k = A j)) (k + 1) = cN (fun j => s j && decide (A k = A j)) k + 1 := by
      show _ + (if (s k && decide (A k = A k)) = true then 1 else 0) = _
      rw [if_pos (by rw [hs, decide_eq_true rfl]; rfl)]
    have h2 := cN_mono (p := fun j => s j && decide (A k = A j)) (n := k + 1) (m := n) (by omega)
    show 1 + _ ≤ _
    omega
  · refine mxN_le n fun k hk hs => ?_
    rcases cN_last (p := fun j => s j && decide (A k = A j)) n with h | ⟨z, h1, h2, h3⟩
    · show cN (fun j => s j && decide (A k = A j)) n ≤ _
      rw [h]; exact Nat.zero_le _
    · simp only [Bool.and_eq_true, decide_eq_true_eq] at h2
      refine Nat.le_trans ?_ (mxN_ge (s := s) (v := fun k => 1 + cN (fun j => s j && decide (A j = A k)) k) n z h1 h2.1)
      show cN (fun j => s j && decide (A k = A j)) n ≤ 1 + cN (fun j => s j && decide (A j = A z)) z
      rw [h3]
      have e : cN (fun j => s j && decide (A k = A j)) z = cN (fun j => s j && decide (A j = A z)) z := cN_ext z fun j _ => by rw [h2.2, decide_eq_decide.mpr (eq_comm : A z = A j ↔ A j = A z)]
      omega
theorem mo_nI {A : Nat → Int32} {c : Int32} : ∀ n, n ≤ 10 → moF A c n = nI (mxN (fun j => hasB c (nI j)) (fun k => 1 + cN (fun j => hasB c (nI j) && decide (A j = A k)) k) n)
  | 0, _ => rfl
  | n + 1, hn => by
    have ih := mo_nI (A := A) (c := c) n (by omega)
    have hm : mxN (fun j => hasB c (nI j)) (fun k => 1 + cN (fun j => hasB c (nI j) && decide (A j = A k)) k) n ≤ 11 := mxN_le n fun k hk _ => by have := cN_le (p := fun j => hasB c (nI j) && decide (A j = A k)) k; show 1 + _ ≤ 11; omega
    have ha : alF A c n = nI (1 + cN (fun j => hasB c (nI j) && decide (A j = A n)) n) := by
      unfold alF
      rw [cntB_nI]
      show nI 1 + nI _ = _
      rw [nI_add]
    have hc := cN_le (p := fun j => hasB c (nI j) && decide (A j = A n)) n
    unfold moF mxN
    rw [ih, ha]
    by_cases hs : hasB c (nI n) = true
    · rw [if_pos hs, if_pos hs]
      by_cases hl : mxN (fun j => hasB c (nI j)) (fun k => 1 + cN (fun j => hasB c (nI j) && decide (A j = A k)) k) n < 1 + cN (fun j => hasB c (nI j) && decide (A j = A n)) n
      · rw [if_pos ((nI_ltI (by omega) (by omega)).mpr hl), if_pos hl]
      · rw [if_neg (fun z => hl ((nI_ltI (by omega) (by omega)).mp z)), if_neg hl]
    · rw [if_neg hs, if_neg hs]
theorem cnA_nI {A : Nat → Int32} {c : Int32} {k : Nat} : ∀ n, cnA A c k n = nI (cN (fun j => hasB c (nI j) && decide (A k = A j)) n)
  | 0 => rfl
  | n + 1 => by
    have ih := cnA_nI (A := A) (c := c) (k := k) n
    unfold cnA cN
    rw [ih]
    by_cases h : hasB c (nI n) = true ∧ A k = A n
    · rw [if_pos h, if_pos (by rw [h.1, decide_eq_true h.2]; rfl)]
      exact nI_1 _
    · rw [if_neg h, if_neg (fun z => h (by simp only [Bool.and_eq_true, decide_eq_true_eq] at z; exact z))]
      exact Int32.add_zero _
/-- the reference's greatest count, written for any number of things -/
def mxG (A : Nat → Int32) (c : Int32) (M : Nat) : Nat → Int32
  | 0 => 0
  | k + 1 => if (if hasB c (nI k) = true then cnA A c k M else 0) ≤ mxG A c M k then mxG A c M k else (if hasB c (nI k) = true then cnA A c k M else 0)
theorem mxG_nI {A : Nat → Int32} {c : Int32} {M : Nat} (hM : M ≤ 10) : ∀ n, mxG A c M n = nI (mxN (fun j => hasB c (nI j)) (fun k => cN (fun j => hasB c (nI j) && decide (A k = A j)) M) n)
  | 0 => rfl
  | n + 1 => by
    have ih := mxG_nI (A := A) (c := c) hM n
    have hm : mxN (fun j => hasB c (nI j)) (fun k => cN (fun j => hasB c (nI j) && decide (A k = A j)) M) n ≤ 10 := mxN_le n fun k _ _ => Nat.le_trans (cN_le M) hM
    have hc := cN_le (p := fun j => hasB c (nI j) && decide (A n = A j)) M
    unfold mxG mxN
    rw [ih, cnA_nI]
    by_cases hs : hasB c (nI n) = true
    · rw [if_pos hs, if_pos hs]
      by_cases hl : mxN (fun j => hasB c (nI j)) (fun k => cN (fun j => hasB c (nI j) && decide (A k = A j)) M) n < cN (fun j => hasB c (nI j) && decide (A n = A j)) M
      · rw [if_neg (fun z => by rw [nI_leI (by omega) (by omega)] at z; omega), if_pos hl]
      · rw [if_pos ((nI_leI (by omega) (by omega)).mpr (by omega)), if_neg hl]
    · rw [if_neg hs, if_neg hs, if_pos]
      exact (nI_leI (a := 0) (by omega) (by omega)).mpr (Nat.zero_le _)
theorem mo_G {A : Nat → Int32} {c : Int32} : moF A c 10 = mxG A c 10 10 := by
  rw [mo_nI 10 (Nat.le_refl _), mxG_nI (Nat.le_refl _), mx_same]
