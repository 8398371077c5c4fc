/-! ===== tokens ===== -/
theorem skF_ext {p q : Nat → Bool} {N s : Nat} (h : ∀ k, p k = q k) : skF p N s = skF q N s := by rw [show p = q from funext h]
theorem skF_idem {p : Nat → Bool} {N s : Nat} : skF p N (skF p N s) = skF p N s := by
  apply skF_stop
  intro hh
  have : ∀ {m s : Nat}, N - s ≤ m → ¬ (scn p N m s < N ∧ p (scn p N m s) = true) := by
    intro m
    induction m with
    | zero => intro s hs hc; have : scn p N 0 s = s := rfl; rw [this] at hc; omega
    | succ m ih =>
      intro s hs hc
      unfold scn at hc
      by_cases h : s < N ∧ p s = true
      · rw [if_pos h] at hc; exact ih (by omega) hc
      · rw [if_neg h] at hc; exact h hc
  exact this (Nat.le_refl _) hh
theorem sp_eq {tx : Nat → Int32} {N s : Nat} : skF (fun k => decide (tx k = 32)) N s = skF (fun k => wth (tx k) 32 32) N s := skF_ext fun k => by
  cases h : wth (tx k) 32 32 with
  | true =>
    rw [wth_ti] at h
    exact decide_eq_true (Int32.toInt_inj.mp (by omega))
  | false =>
    apply decide_eq_false
    intro e
    rw [e] at h
    exact absurd h (by decide)
/-- letters as figures from 1 to 26 -/
def wN (d : Nat → Nat) : Nat → Nat
  | 0 => 0
  | n + 1 => 27 * wN d n + d n
theorem wN_inj {d e : Nat → Nat} : ∀ {n m : Nat}, (∀ k, k < n → 1 ≤ d k ∧ d k ≤ 26) → (∀ k, k < m → 1 ≤ e k ∧ e k ≤ 26) → wN d n = wN e m → n = m ∧ ∀ k, k < n → d k = e k
  | 0, 0, _, _, _ => ⟨rfl, fun k hk => absurd hk (Nat.not_lt_zero _)⟩
  | 0, m + 1, _, he, h => by
    have := he m (Nat.lt_succ_self m)
    have h2 : 0 = 27 * wN e m + e m := h
    omega
  | n + 1, 0, hd, _, h => by
    have := hd n (Nat.lt_succ_self n)
    have h2 : 27 * wN d n + d n = 0 := h
    omega
  | n + 1, m + 1, hd, he, h => by
    have a := hd n (Nat.lt_succ_self n)
    have b := he m (Nat.lt_succ_self m)
    have h2 : 27 * wN d n + d n = 27 * wN e m + e m := h
    obtain ⟨h3, h4⟩ := wN_inj (n := n) (m := m) (fun k hk => hd k (by omega)) (fun k hk => he k (by omega)) (by omega)
    subst h3
    refine ⟨rfl, fun k hk => ?_⟩
    by_cases e : k = n
    · subst e; omega
    · exact h4 k (by omega)
theorem wN_ext {d e : Nat → Nat} : ∀ n, (∀ k, k < n → d k = e k) → wN d n = wN e n
  | 0, _ => rfl
  | n + 1, h => by
    have ih := wN_ext n (fun k hk => h k (by omega))
    show 27 * wN d n + d n = 27 * wN e n + e n
    rw [ih, h n (Nat.lt_succ_self n)]
theorem wN_lt {d : Nat → Nat} : ∀ {n : Nat}, (∀ k, k < n → d k ≤ 26) → wN d n < 27 ^ n
  | 0, _ => by show 0 < 27 ^ 0; decide
  | n + 1, h => by
    have ih := wN_lt (n := n) (fun k hk => h k (by omega))
    have := h n (Nat.lt_succ_self n)
    show 27 * wN d n + d n < 27 ^ (n + 1)
    rw [Nat.pow_succ]
    omega
def lt26 (tx : Nat → Int32) (s k : Nat) : Nat := cl (tx (s + k)) - 96
theorem let_is {x : Int32} (h : wth x 97 122 = true) : ∃ n, 97 ≤ n ∧ n ≤ 122 ∧ x = nI n := by
  rw [wth_ti, show (97 : Int32).toInt = 97 from rfl, show (122 : Int32).toInt = 122 from rfl] at h
  obtain ⟨n, h1, h2, h3⟩ := nI_ofT (x := x) (by omega)
  exact ⟨n, by omega, by omega, h2⟩
theorem wd_N {tx : Nat → Int32} {s : Nat} : ∀ n, n ≤ 6 → (∀ k, k < n → wth (tx (s + k)) 97 122 = true) → wdM tx s n = nI (wN (lt26 tx s) n)
  | 0, _, _ => rfl
  | n + 1, hn, h => by
    have ih := wd_N (tx := tx) (s := s) n (by omega) (fun k hk => h k (by omega))
    obtain ⟨x, x1, x2, x3⟩ := let_is (h n (Nat.lt_succ_self n))
    have e4 : wdM tx s (n + 1) = 27 * wdM tx s n + tx (s + n) - 96 := if_pos (by omega)
    rw [e4, ih, x3]
    show nI 27 * nI (wN (lt26 tx s) n) + nI x - nI 96 = nI (27 * wN (lt26 tx s) n + (cl (tx (s + n)) - 96))
    rw [pk_mul, nI_add, pk_sub (by omega), x3, cl_nI (by omega)]
    congr 1
    omega
theorem lt_bd {tx : Nat → Int32} {s k : Nat} (h : wth (tx (s + k)) 97 122 = true) : 1 ≤ lt26 tx s k ∧ lt26 tx s k ≤ 26 := by
  obtain ⟨x, x1, x2, x3⟩ := let_is h
  unfold lt26
  rw [x3, cl_nI (by omega)]
  omega
def cdI (i : Nat) : Int32 := [493294, 235997865, 10793, 283619210, 453701].getD i 0
def lwN (i k : Nat) : Nat := cl (swC i k) - 96
theorem cd_N : ∀ i, i < 5 → cdI i = nI (wN (lwN i) (swL.getD i 0)) ∧ swL.getD i 0 ≤ 6 ∧ 0 < swL.getD i 0 ∧ 0 < (cdI i).toInt ∧ ∀ k, k < swL.getD i 0 → (1 ≤ lwN i k ∧ lwN i k ≤ 26 ∧ swC i k = nI (lwN i k + 96)) := by decide +kernel
theorem word_is {tx : Nat → Int32} {s n i : Nat} (hi : i < 5) (hn : n ≤ 6) (h : ∀ k, k < n → wth (tx (s + k)) 97 122 = true) : (decide (n = swL.getD i 0) && (List.range (swL.getD i 0)).all (fun z => decide (tx (s + z) = swC i z))) = decide (wdM tx s n = cdI i) := by
  obtain ⟨c1, c2, c3, c4, c5⟩ := cd_N i hi
  have p6 : ∀ m, m ≤ 6 → 27 ^ m < 2147483648 := by decide +kernel
  have l1 := wN_lt (d := lt26 tx s) (n := n) (fun k hk => (lt_bd (h k hk)).2)
  have l2 := wN_lt (d := lwN i) (n := swL.getD i 0) (fun k hk => (c5 k hk).2.1)
  have q1 := p6 n hn
  have q2 := p6 _ c2
  rw [wd_N n hn h, c1]
  by_cases e : wN (lt26 tx s) n = wN (lwN i) (swL.getD i 0)
  · rw [e, decide_eq_true rfl]
    obtain ⟨e1, e2⟩ := wN_inj (fun k hk => lt_bd (h k hk)) (fun k hk => ⟨(c5 k hk).1, (c5 k hk).2.1⟩) e
    rw [decide_eq_true e1, Bool.true_and]
    refine List.all_eq_true.mpr fun z hz => decide_eq_true ?_
    have hz2 := List.mem_range.mp hz
    have a := e2 z (by omega)
    obtain ⟨x, x1, x2, x3⟩ := let_is (h z (by omega))
    rw [(c5 z hz2).2.2, ← a]
    unfold lt26
    rw [x3, cl_nI (by omega)]
    congr 1
    omega
  · rw [decide_eq_false (fun z => e (nI_inj (by omega) (by omega) z))]
    apply Bool.eq_false_iff.mpr
    intro z
    rw [Bool.and_eq_true] at z
    have e1 := of_decide_eq_true z.1
    apply e
    rw [← e1]
    refine wN_ext n fun k hk => ?_
    have a := of_decide_eq_true (List.all_eq_true.mp z.2 k (List.mem_range.mpr (by omega)))
    show cl (tx (s + k)) - 96 = lwN i k
    rw [a]
    rfl
def TkR (tx : Nat → Int32) (N : Nat) (T : T5) (w : M4) : Prop :=
  (T.2.1 = 0 ∧ w.2.2.1 = -1 ∧ w.2.1 = N) ∨ (T.2.2.1 = w.2.1 ∧ T.2.2.2.1 = w.1 ∧ w.2.1 < w.1 ∧ w.1 ≤ N ∧
   ((T.2.1 = 1 ∧ (∀ k, w.2.1 ≤ k → k < w.1 → wth (tx k) 97 122 = true) ∧ w.2.2.1 = if 6 < w.1 - w.2.1 then 0 else wdM tx w.2.1 (w.1 - w.2.1)) ∨
    (T.2.1 = 2 ∧ w.2.2.1 = -2 ∧ w.1 - w.2.1 ≤ 2 ∧ T.2.2.2.2 = nmV tx w) ∨ (T.2.1 = 3 ∧ w.2.2.1 = -3) ∨ (T.2.1 = 4 ∧ (w.2.2.1 = -4 ∨ w.2.2.1 = -2 ∧ ¬ w.1 - w.2.1 ≤ 2))))
theorem nu_eq {tx : Nat → Int32} {N s b : Nat} {t fa : Int32} (h1 : s < b) (h2 : b ≤ N) (h3 : b - s ≤ 2) : nuV tx N s b = nmV tx (b, s, t, fa) := by
  unfold nuV nmV
  show (if b - s = 2 then _ else _) = (if b - s = 2 then 10 * (tx s - 48) + tx (s + 1) - 48 else tx s - 48)
  by_cases e : b - s = 2
  · rw [if_pos e, if_pos e]
    unfold bAt
    rw [if_pos (show b - 1 < N by omega), if_pos (show s < N by omega), show b - 1 = s + 1 by omega]
    generalize 10 * (tx s - 48) = x
    generalize tx (s + 1) = y
    apply Int32.toBitVec_inj.mp
    simp only [Int32.toBitVec_sub, Int32.toBitVec_add]
    rw [BitVec.sub_eq_add_neg, BitVec.sub_eq_add_neg, BitVec.add_comm, BitVec.add_assoc]
  · rw [if_neg e, if_neg e]
    unfold bAt
    rw [if_pos (show b - 1 < N by omega), show b - 1 = s by omega]
theorem nt_rel {tx : Nat → Int32} {N : Nat} {T : T5} {z : M4} (h : skF (fun k => wth (tx k) 32 32) N T.2.2.2.1 = skF (fun k => wth (tx k) 32 32) N z.1) (hN : z.1 ≤ N) : TkR tx N (ntT tx N T) (nxZ tx N z) ∧ (ntT tx N T).1 = T.1 := by
  have le := skF_le (p := fun k => wth (tx k) 32 32) hN
  unfold ntT nxZ nxM
  rw [sp_eq, h]
  generalize skF (fun k => wth (tx k) 32 32) N z.1 = s at le
  by_cases hs : s < N
  · rw [if_pos hs, if_neg (show ¬ s = N by omega)]
    by_cases c1 : wth (tx s) 97 122 = true
    · rw [if_pos c1, if_pos c1, ← skF_go (p := fun k => wth (tx k) 97 122) hs c1]
      exact ⟨Or.inr ⟨rfl, rfl, skF_gt hs c1, skF_le le, Or.inl ⟨rfl, fun k h1 h2 => skF_all (p := fun k => wth (tx k) 97 122) h1 h2, rfl⟩⟩, rfl⟩
    · rw [if_neg c1, if_neg c1]
      by_cases c2 : wth (tx s) 48 57 = true
      · rw [if_pos c2, if_pos c2, ← skF_go (p := fun k => wth (tx k) 48 57) hs c2]
        have g := skF_gt (p := fun k => wth (tx k) 48 57) hs c2
        have l := skF_le (p := fun k => wth (tx k) 48 57) le
        generalize skF (fun k => wth (tx k) 48 57) N s = b at g l
        refine ⟨Or.inr ⟨rfl, rfl, g, l, ?_⟩, rfl⟩
        by_cases e : b - s ≤ 2
        · exact Or.inr (Or.inl ⟨if_pos e, rfl, e, nu_eq g l e⟩)
        · exact Or.inr (Or.inr (Or.inr ⟨if_neg e, Or.inr ⟨rfl, e⟩⟩))
      · rw [if_neg c2, if_neg c2]
        refine ⟨Or.inr ⟨rfl, rfl, Nat.lt_succ_self s, hs, Or.inr (Or.inr ?_)⟩, rfl⟩
        by_cases e : tx s = 59
        · exact Or.inl ⟨if_pos e, if_pos e⟩
        · exact Or.inr ⟨if_neg e, Or.inl (if_neg e)⟩
  · have e : s = N := by omega
    rw [if_neg hs, if_pos e]
    exact ⟨Or.inl ⟨rfl, rfl, e⟩, rfl⟩
