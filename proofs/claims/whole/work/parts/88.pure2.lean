/-! ===== sets as bits ===== -/
theorem sm_j : ∀ j, j < 10 → ((nI j &&& 31).toBitVec.smod 32).toNat = j := by decide +kernel
theorem has_tb {S j : Nat} (hS : S < 2147483648) (hj : j < 10) : hasB (nI S) (nI j) = S.testBit j := by
  unfold hasB
  rw [pk_shrN hS _ j (sm_j j hj), pk_andN (n := S / 2 ^ j) (by have := Nat.div_le_self S (2 ^ j); omega) 1 (by decide), Nat.testBit_eq_decide_div_mod_eq]
  have h2 : S / 2 ^ j % 2 ^ 1 = S / 2 ^ j % 2 := by rw [Nat.pow_one]
  rw [h2]
  have h3 := Nat.mod_lt (S / 2 ^ j) (show 0 < 2 by decide)
  by_cases h : S / 2 ^ j % 2 = 1
  · rw [h]; decide
  · rw [show S / 2 ^ j % 2 = 0 by omega]; decide
theorem set_tb {p : Nat → Bool} : ∀ n, n ≤ 10 → ∃ S : Nat, S < 2 ^ n ∧ setB p n = nI S ∧ ∀ j, S.testBit j = (decide (j < n) && p j)
  | 0, _ => ⟨0, by decide, rfl, fun j => by rw [Nat.zero_testBit]; simp⟩
  | n + 1, h => by
    obtain ⟨S, h1, h2, h4⟩ := set_tb (p := p) n (by omega)
    have h3 : 2 ^ (n + 1) = 2 ^ n * 2 := Nat.pow_succ _ _
    cases hp : p n with
    | true =>
      refine ⟨S + 2 ^ n, by omega, by rw [← setB_t hp, h2]; exact or_bit n (by omega) S h1, fun j => ?_⟩
      rcases Nat.lt_trichotomy j n with hj | hj | hj
      · rw [Nat.add_comm, Nat.testBit_two_pow_add_gt hj, h4, decide_eq_true hj, decide_eq_true (show j < n + 1 by omega)]
      · subst hj
        rw [Nat.add_comm, Nat.testBit_two_pow_add_eq, h4, decide_eq_false (Nat.lt_irrefl j), decide_eq_true (Nat.lt_succ_self j), hp]
        rfl
      · rw [decide_eq_false (show ¬ j < n + 1 by omega), Bool.false_and]
        exact Nat.testBit_lt_two_pow (Nat.lt_of_lt_of_le (show S + 2 ^ n < 2 ^ (n + 1) by omega) (Nat.pow_le_pow_right (by decide) (by omega)))
    | false =>
      refine ⟨S, by omega, by rw [← setB_f hp, h2], fun j => ?_⟩
      rw [h4]
      by_cases hj : j < n
      · rw [decide_eq_true hj, decide_eq_true (show j < n + 1 by omega)]
      · rw [decide_eq_false hj, Bool.false_and]
        by_cases hn : j = n
        · rw [hn, hp, Bool.and_false]
        · rw [decide_eq_false (show ¬ j < n + 1 by omega), Bool.false_and]
theorem has_set {p : Nat → Bool} {n j : Nat} (hn : n ≤ 10) (hj : j < 10) : hasB (setB p n) (nI j) = (decide (j < n) && p j) := by
  obtain ⟨S, h1, h2, h3⟩ := set_tb (p := p) n hn
  rw [h2, has_tb (Nat.lt_trans (Nat.lt_of_lt_of_le h1 (Nat.pow_le_pow_right (by decide) hn)) (by decide)) hj, h3]
theorem setB_ext {p q : Nat → Bool} : ∀ n, (∀ j, j < n → p j = q j) → setB p n = setB q n
  | 0, _ => rfl
  | n + 1, h => by
    have ih := setB_ext n (fun j hj => h j (by omega))
    unfold setB
    rw [ih, h n (Nat.lt_succ_self n)]
theorem sumN_ext {f h : Nat → Int32} : ∀ n, (∀ j, j < n → f j = h j) → sumN f n = sumN h n
  | 0, _ => rfl
  | n + 1, e => by
    have ih := sumN_ext n (fun j hj => e j (by omega))
    unfold sumN
    rw [ih, e n (Nat.lt_succ_self n)]
theorem sumI_ext {p q : Nat → Bool} {f h : Nat → Int32} : ∀ n, (∀ j, j < n → p j = q j) → (∀ j, j < n → p j = true → f j = h j) → sumI p f n = sumI q h n
  | 0, _, _ => rfl
  | n + 1, e1, e2 => by
    have ih := sumI_ext n (fun j hj => e1 j (by omega)) (fun j hj => e2 j (by omega))
    have hn := e1 n (Nat.lt_succ_self n)
    unfold sumI
    rw [ih, ← hn]
    split
    · rename_i hp; rw [e2 n (Nat.lt_succ_self n) hp]
    · rfl
theorem cl_n6 {r : Nat → Int32} (hw : Wf r) : cl (r 2) ≤ 6 ∧ (cl (r 2) : Int) = (r 2).toInt := by
  have h1 := cl_ti (i := r 2) hw.2.2.1.1
  have h2 := hw.n6
  exact ⟨by omega, h1⟩
theorem cl_n3 {r : Nat → Int32} (hw : Wf r) : cl (r 1) ≤ 3 ∧ (cl (r 1) : Int) = (r 1).toInt := by
  have h1 := cl_ti (i := r 1) hw.2.1.1
  have h2 := hw.n3
  exact ⟨by omega, h1⟩
theorem nut_of {r : Nat → Int32} (hw : Wf r) {j : Nat} (h : j < cl (r 2)) : yNut r (nI j) = true := nut_nI (by have := (cl_n6 hw).2; omega)
/-- who has what -/
theorem who_eq {r q : Nat → Int32} {p w : Int32} (h : Lv r q) (hw : Wf r) (hq : Wf q) (hp : yPl r p = true) : yPF r p w = mPF q p w := by
  unfold yPF mPF
  have a := h.pat hp
  have e : (fun j => yWof r (nI j) p) = fun j => yWof q (nI j) p := funext fun j => h.wof (nI j) p
  rw [if_pos hp, ← a.1, ← a.2, e, ← h.2.2.1]
  by_cases h0 : w = 0
  · rw [if_pos h0, if_pos h0]
  · rw [if_neg h0, if_neg h0]
    by_cases h1 : w = 1
    · rw [if_pos h1, if_pos h1]
    · rw [if_neg h1, if_neg h1]
      by_cases h2 : w = 2
      · rw [if_pos h2, if_pos h2]
      · rw [if_neg h2, if_neg h2]
        have hn := cl_n6 hw
        refine sumI_ext _ (fun j hj => ?_) (fun j hj _ => ?_)
        · rw [has_set (by omega) (by omega), decide_eq_true hj, Bool.true_and]
        · exact (h.2.2.2.2 j (by omega)).2.2.2.2.2
/-- all that is counted -/
theorem cnt_eq {r q tl : Nat → Int32} {N N1 N2 N3 tN um lm : Nat} {w : Int32} (h : Lv r q) (hw : Wf r) (hN : N = um) (h1 : tl 0 = nI N1) (h2 : tl 26 = nI N2) (h3 : tl 63 = nI N3) (ht : tN = lm) : cnC r N N1 N2 N3 tN w = cnM q tl um lm w := by
  have hn := cl_n6 hw
  unfold cnC cnM
  rw [← h.1, ← h.2.1, ← h.2.2.1, h1, h2, h3, hN, ht]
  have e3 : setB (fun j => yBrk r (nI j)) (cl (r 2)) = setB (fun j => mBrk q (nI j)) (cl (r 2)) := setB_ext _ fun j hj => by rw [brk_m (nut_of hw hj), h.mbrk (nut_of hw hj)]
  have e4 : sumN (fun j => yFact r (nI j) 4) (cl (r 2)) = sumN (fun j => q (33 + j)) (cl (r 2)) := sumN_ext _ fun j hj => by
    have hy := yFact_k (r := r) (k := 4) (nut_of hw hj) (by decide)
    show yFact r (nI j) (nI 4) = _
    rw [hy, cl_nI (by omega)]
    exact (h.2.2.2.2 j (by omega)).2.2.2.2.1
  have e5 : sumN (fun j => yFact r (nI j) 5) (cl (r 2)) = sumN (fun j => q (39 + j)) (cl (r 2)) := sumN_ext _ fun j hj => by
    have hy := yFact_k (r := r) (k := 5) (nut_of hw hj) (by decide)
    show yFact r (nI j) (nI 5) = _
    rw [hy, cl_nI (by omega)]
    exact (h.2.2.2.2 j (by omega)).2.2.2.2.2
  rw [e3, e4, e5]
