/-! ===== odds: hits against misses ===== -/
theorem pas_k {r : Nat → Int32} {k : Nat} (h : ¬ k = 0) : pasF r k = r k := by unfold pasF; exact upd_ne h
theorem pas_can {r : Nat → Int32} {i j : Int32} : yCan (pasF r) i j = yCan r i j := by
  unfold yCan yNut
  rw [pas_k (by omega), pas_k (by omega), pas_k (by omega), pas_k (by omega), pas_k (by omega)]
theorem pas_brk {r : Nat → Int32} {i : Int32} : yBrk (pasF r) i = yBrk r i := by
  unfold yBrk yNut
  rw [pas_k (by omega), pas_k (by omega)]
theorem sw_2 {r : Nat → Int32} {i j d hh : Int32} : ∀ n, (swF r i j d hh n).2 2 = r 2
  | 0 => rfl
  | n + 1 => by
    have ih := sw_2 (r := r) (i := i) (j := j) (d := d) (hh := hh) n
    unfold swF
    split
    · show (if _ then _ else _ : Nat → Int32) 2 = _
      split
      · exact stk_12.2.trans ih
      · exact (pas_k (by omega)).trans ih
    · exact (pas_k (by omega)).trans ih
theorem ow_2 {q : Nat → Int32} {i j : Int32} {mk : Nat} : ∀ n, owR q i j mk n 2 = q 2
  | 0 => rfl
  | n + 1 => by
    have ih := ow_2 (q := q) (i := i) (j := j) (mk := mk) n
    unfold owR
    split
    · split
      · unfold pasM; exact (upd_ne (by omega)).trans ih
      · exact stk_12.2.trans ih
    · exact ih
def odI (z y : Nat → Int32) (i j : Int32) : Prop := Lv z y ∨ (yCan z i j = false ∧ yCan y i j = false ∧ yBrk z i = yBrk y i ∧ yBrk z j = yBrk y j)
theorem od_row {r q : Nat → Int32} {i j d : Int32} {hh mk N : Nat} (h : Lv r q) (hw : Wf r) (hq : Wf q) (hb : ∀ n, n < N → hasB (nI hh) (nI n) = !hasB (nI mk) (nI n)) : ∀ n, n ≤ N → odI (swF r i j d (nI hh) n).2 (owR q i j mk n) i j
  | 0, _ => Or.inl h
  | n + 1, hn => by
    have ih := od_row (i := i) (j := j) (d := d) h hw hq hb n (by omega)
    have hwn := Wf_swF (i := i) (j := j) (d := d) (hh := nI hh) hw n
    have hqn := Wf_owR (i := i) (j := j) (q := mk) hq n
    have b := hb n (by omega)
    generalize hz : swF r i j d (nI hh) n = z at ih hwn
    generalize hy : owR q i j mk n = y at ih hqn
    have es : (swF r i j d (nI hh) (n + 1)).2 = if hasB (nI hh) (nI n) = true then (if yCan z.2 i j = true then stk z.2 i j else pasF z.2) else pasF z.2 := by
      unfold swF
      rw [hz]
      split
      · rfl
      · rfl
    have eo : owR q i j mk (n + 1) = if yCan y i j = true then (if hasB (nI mk) (nI n) = true then pasM y else stk y i j) else y := by
      unfold owR
      rw [hy]
    rw [es, eo]
    rcases ih with L | ⟨c1, c2, b1, b2⟩
    · by_cases hc : yCan y i j = true
      · rw [if_pos hc, if_pos (show yCan z.2 i j = true from (L.can i j).trans hc), pasM_eq hqn]
        cases hm : hasB (nI mk) (nI n) with
        | true =>
          rw [hm] at b
          rw [b, if_neg (by decide), if_pos rfl]
          exact Or.inl L.pasL
        | false =>
          rw [hm] at b
          rw [b, if_pos (show (!false) = true from rfl), if_neg (by decide)]
          exact Or.inl (L.stkL hwn ((L.nut i).trans (yCan_nut hc).1) ((L.nut j).trans (yCan_nut hc).2))
      · have cz : yCan z.2 i j = false := (L.can i j).trans (Bool.eq_false_iff.mpr hc)
        rw [if_neg hc, if_neg (show ¬ yCan z.2 i j = true by rw [cz]; decide), ite_self]
        exact Or.inr ⟨pas_can.trans cz, Bool.eq_false_iff.mpr hc, pas_brk.trans (L.brk i), pas_brk.trans (L.brk j)⟩
    · rw [if_neg (show ¬ yCan y i j = true by rw [c2]; decide), if_neg (show ¬ yCan z.2 i j = true by rw [c1]; decide), ite_self]
      exact Or.inr ⟨pas_can.trans c1, c2, pas_brk.trans b1, pas_brk.trans b2⟩
theorem od_wt {D hh mk N : Nat} (hb : ∀ n, n < N → hasB (nI hh) (nI n) = !hasB (nI mk) (nI n)) : ∀ n, n ≤ N → swW D hh n = owW D mk n
  | 0, _ => rfl
  | n + 1, hn => by
    have ih := od_wt (D := D) hb n (by omega)
    unfold swW owW
    rw [ih, hb n (by omega)]
    cases hasB (nI mk) (nI n) with
    | true => rfl
    | false => rfl
theorem od_step {r q : Nat → Int32} {i j : Int32} {D hh mk N : Nat} (h : Lv r q) (hw : Wf r) (hq : Wf q) (hi : yNut r i = true) (hj : yNut r j = true) (hb : ∀ n, n < N → hasB (nI hh) (nI n) = !hasB (nI mk) (nI n)) : wbN r i j D N (hh + 1) = wbN r i j D N hh + (if mBrk (owR q i j mk N) j = true ∧ mBrk (owR q i j mk N) i = false then owW D mk N else 0) := by
  have R := od_row (i := i) (j := j) (d := nI D) h hw hq hb N (Nat.le_refl _)
  have nz : ∀ k, yNut (swF r i j (nI D) (nI hh) N).2 k = yNut r k := fun k => by unfold yNut; rw [sw_2]
  have ny : ∀ k, yNut (owR q i j mk N) k = yNut r k := fun k => by rw [h.nut]; unfold yNut; rw [ow_2]
  have B : yBrk (swF r i j (nI D) (nI hh) N).2 i = yBrk (owR q i j mk N) i ∧ yBrk (swF r i j (nI D) (nI hh) N).2 j = yBrk (owR q i j mk N) j := by
    rcases R with L | ⟨-, -, b1, b2⟩
    · exact ⟨L.brk i, L.brk j⟩
    · exact ⟨b1, b2⟩
  have e1 : yWhl (swF r i j (nI D) (nI hh) N).2 i = !mBrk (owR q i j mk N) i := by
    rw [whl_m ((nz i).trans hi), ← brk_m ((nz i).trans hi), B.1, brk_m ((ny i).trans hi)]
  have e2 : yBrk (swF r i j (nI D) (nI hh) N).2 j = mBrk (owR q i j mk N) j := by rw [B.2, brk_m ((ny j).trans hj)]
  show (if _ then (if _ then _ else _) else _) = _
  rw [e1, e2, od_wt hb N (Nat.le_refl _)]
  cases mBrk (owR q i j mk N) j with
  | false => rfl
  | true =>
    cases mBrk (owR q i j mk N) i with
    | false => rfl
    | true => rfl
theorem od_sum {r q : Nat → Int32} {i j : Int32} {D N : Nat} (h : Lv r q) (hw : Wf r) (hq : Wf q) (hi : yNut r i = true) (hj : yNut r j = true) (hN : N ≤ 6) : ∀ n, n ≤ 2 ^ N → wbN r i j D N n + odS q i j D N (2 ^ N - n) = odS q i j D N (2 ^ N)
  | 0, _ => by show 0 + _ = _; rw [Nat.zero_add, Nat.sub_zero]
  | n + 1, hn => by
    have ih := od_sum (D := D) h hw hq hi hj hN n (by omega)
    have T : 2 ^ N ≤ 64 := Nat.pow_le_pow_right (n := 2) (by decide) hN
    have e : 2 ^ N - n = 2 ^ N - (n + 1) + 1 := by omega
    rw [od_step (D := D) (mk := 2 ^ N - (n + 1)) h hw hq hi hj (fun k hk => by
      rw [has_tb (by omega) (by omega), has_tb (by omega) (by omega), Nat.testBit_two_pow_sub_succ (by omega), decide_eq_true hk, Bool.true_and, Bool.not_not])]
    rw [e] at ih
    have s : odS q i j D N (2 ^ N - (n + 1) + 1) = odS q i j D N (2 ^ N - (n + 1)) + (if mBrk (owR q i j (2 ^ N - (n + 1)) N) j = true ∧ mBrk (owR q i j (2 ^ N - (n + 1)) N) i = false then owW D (2 ^ N - (n + 1)) N else 0) := rfl
    omega
theorem odds_eq {r q : Nat → Int32} {i j : Int32} {D N : Nat} (h : Lv r q) (hw : Wf r) (hq : Wf q) (hi : yNut r i = true) (hj : yNut r j = true) (hN : N ≤ 6) : wbN r i j D N (2 ^ N) = odS q i j D N (2 ^ N) := by
  have a := od_sum (D := D) h hw hq hi hj hN (2 ^ N) (Nat.le_refl _)
  rw [Nat.sub_self] at a
  exact a
/-! ===== rank ===== -/
theorem cN_two {p q : Nat → Bool} : ∀ n, (∀ j, j < n → p j = true → q j = true) → cN p n ≤ cN q n ∧ ((∃ j, j < n ∧ p j = false ∧ q j = true) → cN p n < cN q n)
  | 0, _ => ⟨Nat.le_refl _, fun ⟨j, hj, _⟩ => absurd hj (Nat.not_lt_zero _)⟩
  | n + 1, h => by
    obtain ⟨h1, h2⟩ := cN_two n (fun j hj => h j (by omega))
    have hn := h n (Nat.lt_succ_self n)
    have ep : cN p (n + 1) = cN p n + (if p n = true then 1 else 0) := rfl
    have eq : cN q (n + 1) = cN q n + (if q n = true then 1 else 0) := rfl
    rw [ep, eq]
    refine ⟨?_, fun ⟨j, hj, hpj, hqj⟩ => ?_⟩
    · by_cases hp : p n = true
      · rw [if_pos hp, if_pos (hn hp)]; omega
      · rw [if_neg hp]; omega
    · by_cases e : j = n
      · subst e
        rw [if_pos hqj, if_neg (by rw [hpj]; decide)]; omega
      · have := h2 ⟨j, by omega, hpj, hqj⟩
        by_cases hp : p n = true
        · rw [if_pos hp, if_pos (hn hp)]; omega
        · rw [if_neg hp]; omega
theorem cN_all {p : Nat → Bool} : ∀ n, (∀ j, j < n → p j = true) → cN p n = n
  | 0, _ => rfl
  | n + 1, h => by
    have ih := cN_all n (fun j hj => h j (by omega))
    show cN p n + (if p n = true then 1 else 0) = _
    rw [ih, if_pos (h n (Nat.lt_succ_self n))]
theorem cN_one {p : Nat → Bool} {c : Nat} : ∀ n, p c = false → cN (fun j => p j || decide (j = c)) n = cN p n + (if c < n then 1 else 0)
  | 0, _ => by rw [if_neg (Nat.not_lt_zero _)]; rfl
  | n + 1, h => by
    have ih := cN_one (p := p) (c := c) n h
    show cN (fun j => p j || decide (j = c)) n + (if (p n || decide (n = c)) = true then 1 else 0) = cN p n + (if p n = true then 1 else 0) + _
    rw [ih]
    by_cases e : n = c
    · subst e
      rw [h, decide_eq_true rfl, if_neg (Nat.lt_irrefl n), if_pos (by rfl), if_neg (by decide), if_pos (Nat.lt_succ_self n)]
    · rw [decide_eq_false e, Bool.or_false]
      by_cases hc : c < n
      · rw [if_pos hc, if_pos (show c < n + 1 by omega)]; omega
      · rw [if_neg hc, if_neg (show ¬ c < n + 1 by omega)]; omega
def byN (q : Nat → Int32) (n : Nat) : Nat := cl (q (39 + n)) + (if mBrk q (nI n) = true then 0 else 1000)
theorem by_N {q : Nat → Int32} (hq : Wf q) {n : Nat} (hn : n < 6) : byM q n = nI (byN q n) ∧ byN q n < 2000 ∧ ∃ s, s < 1000 ∧ q (39 + n) = nI s ∧ byN q n = s + (if mBrk q (nI n) = true then 0 else 1000) := by
  have b := (hq.2.2.2.2.1 n hn).2.2.2.2.2
  obtain ⟨s, h1, h2, h3⟩ := nI_ofT (x := q (39 + n)) b.1
  have b2 := b.2
  have hs : s < 1000 := by omega
  have e : byN q n = s + (if mBrk q (nI n) = true then 0 else 1000) := by unfold byN; rw [h2, cl_nI h1]
  refine ⟨?_, by rw [e]; split <;> omega, s, hs, h2, e⟩
  unfold byM
  rw [e, h2]
  split
  · show nI s + nI 0 = _
    rw [nI_add]
  · show nI s + nI 1000 = _
    rw [nI_add]
def ahN (q : Nat → Int32) (a b : Nat) : Bool := decide (byN q b < byN q a ∨ byN q a = byN q b ∧ a < b)
theorem ah_eq {r q : Nat → Int32} (h : Lv r q) (hw : Wf r) (hq : Wf q) {a b : Nat} (ha : a < cl (r 2)) (hb : b < cl (r 2)) : yAhead r (nI a) (nI b) = ahN q a b := by
  have c6 := (cl_n6 hw).1
  have na := nut_of hw ha
  have nb := nut_of hw hb
  have qa := (h.nut _).symm.trans na
  have qb := (h.nut _).symm.trans nb
  obtain ⟨-, -, s, s1, s2, s3⟩ := by_N hq (n := a) (by omega)
  obtain ⟨-, -, t, t1, t2, t3⟩ := by_N hq (n := b) (by omega)
  unfold yAhead ahN
  rw [na, nb, h.brk, h.brk, brk_m qa, brk_m qb, (h.at na).2.2.2.2.2, (h.at nb).2.2.2.2.2, cl_nI (n := a) (by omega), cl_nI (n := b) (by omega), s2, t2, s3, t3, Bool.true_and, Bool.true_and]
  have e1 : nI s = nI t ↔ s = t := ⟨fun e => by rw [← cl_nI (n := s) (by omega), ← cl_nI (n := t) (by omega), e], fun e => by rw [e]⟩
  have e2 : nI t < nI s ↔ t < s := nI_ltI (by omega) (by omega)
  have e3 : nI a < nI b ↔ a < b := nI_ltI (by omega) (by omega)
  rw [show decide (nI t < nI s) = decide (t < s) from decide_eq_decide.mpr e2, show decide (nI a < nI b) = decide (a < b) from decide_eq_decide.mpr e3]
  cases mBrk q (nI a) <;> cases mBrk q (nI b)
  · rw [if_pos rfl]
    by_cases e : s = t
    · rw [if_pos (e1.mpr e)]; apply decide_eq_decide.mpr; simp; omega
    · rw [if_neg (fun z => e (e1.mp z))]; apply decide_eq_decide.mpr; simp; omega
  · rw [if_neg (by decide)]; symm; apply decide_eq_true; left; simp; omega
  · rw [if_neg (by decide)]; symm; apply decide_eq_false; simp; omega
  · rw [if_pos rfl]
    by_cases e : s = t
    · rw [if_pos (e1.mpr e)]; apply decide_eq_decide.mpr; simp; omega
    · rw [if_neg (fun z => e (e1.mp z))]; apply decide_eq_decide.mpr; simp; omega
theorem rkI_is {q : Nat → Int32} (hq : Wf q) {u w : Int32} : ∀ n, n ≤ 6 → (rkI q u w n = (w, -1) ∧ ∀ j, j < n → hasB u (nI j) = true) ∨ ∃ c, c < n ∧ hasB u (nI c) = false ∧ rkI q u w n = (nI c, nI (byN q c)) ∧ ∀ j, j < n → hasB u (nI j) = false → byN q j ≤ byN q c ∧ (j < c → byN q j < byN q c)
  | 0, _ => Or.inl ⟨rfl, fun j hj => absurd hj (Nat.not_lt_zero _)⟩
  | n + 1, hn => by
    have ih := rkI_is hq (u := u) (w := w) n (by omega)
    have st : rkI q u w (n + 1) = if hasB u (nI n) = true then rkI q u w n else if byM q n ≤ (rkI q u w n).2 then rkI q u w n else (nI n, byM q n) := rfl
    obtain ⟨e, l, -⟩ := by_N hq (n := n) (by omega)
    rw [st, e]
    by_cases hb : hasB u (nI n) = true
    · rw [if_pos hb]
      rcases ih with ⟨h1, h2⟩ | ⟨c, h1, h2, h3, h4⟩
      · refine Or.inl ⟨h1, fun j hj => ?_⟩
        by_cases e : j = n
        · rw [e]; exact hb
        · exact h2 j (by omega)
      · refine Or.inr ⟨c, by omega, h2, h3, fun j hj hu => h4 j ?_ hu⟩
        have : ¬ j = n := fun e => by rw [e, hb] at hu; exact absurd hu (by decide)
        omega
    · rw [if_neg hb]
      have hbf := Bool.eq_false_iff.mpr hb
      rcases ih with ⟨h1, h2⟩ | ⟨c, h1, h2, h3, h4⟩
      · rw [h1, if_neg (show ¬ nI (byN q n) ≤ -1 from by rw [Int32.le_iff_toInt_le, nI_ti (by omega), show (-1 : Int32).toInt = -1 from rfl]; omega)]
        refine Or.inr ⟨n, by omega, hbf, rfl, fun j hj hu => ?_⟩
        have : j = n := by
          by_cases e : j = n
          · exact e
          · have := h2 j (by omega); rw [this] at hu; exact absurd hu (by decide)
        rw [this]; exact ⟨Nat.le_refl _, fun z => absurd z (Nat.lt_irrefl _)⟩
      · obtain ⟨-, lc, -⟩ := by_N hq (n := c) (by omega)
        rw [h3]
        by_cases hl : byN q n ≤ byN q c
        · rw [if_pos (show nI (byN q n) ≤ nI (byN q c) from (nI_leI (by omega) (by omega)).mpr hl)]
          refine Or.inr ⟨c, by omega, h2, rfl, fun j hj hu => ?_⟩
          by_cases e : j = n
          · rw [e]; exact ⟨hl, fun z => by omega⟩
          · exact h4 j (by omega) hu
        · rw [if_neg (show ¬ nI (byN q n) ≤ nI (byN q c) from fun z => hl ((nI_leI (by omega) (by omega)).mp z))]
          refine Or.inr ⟨n, by omega, hbf, rfl, fun j hj hu => ?_⟩
          by_cases e : j = n
          · rw [e]; exact ⟨Nat.le_refl _, fun z => absurd z (Nat.lt_irrefl _)⟩
          · have := h4 j (by omega) hu
            exact ⟨by omega, fun z => by omega⟩
theorem or_set : ∀ S, S < 64 → ∀ c, c < 6 → nI S ||| ((1 : Int32) <<< (nI c &&& 31)) = nI (S ||| 2 ^ c) ∧ S ||| 2 ^ c < 64 := by decide +kernel
/-- behind t choices: the set, and what was chosen last -/
theorem rkO_is {q : Nat → Int32} (hq : Wf q) : ∀ t, t ≤ cl (q 2) → ∃ S : Nat, S < 64 ∧ (rkO q t).2 = nI S ∧ cN (fun j => S.testBit j) (cl (q 2)) = t ∧ (∀ a b, a < cl (q 2) → b < cl (q 2) → S.testBit a = true → ahN q b a = true → S.testBit b = true) ∧ (0 < t → ∃ c, c < cl (q 2) ∧ (rkO q t).1 = nI c ∧ cN (fun z => ahN q z c) (cl (q 2)) + 1 = t)
  | 0, _ => ⟨0, by decide, rfl, by
      have : ∀ n, cN (fun j => (0 : Nat).testBit j) n = 0 := fun n => by
        induction n with
        | zero => rfl
        | succ n ih => show cN _ n + (if _ then 1 else 0) = 0; rw [ih, if_neg (show ¬ (0 : Nat).testBit n = true by rw [Nat.zero_testBit]; decide)]
      exact this _, fun a b _ _ h _ => by rw [Nat.zero_testBit] at h; exact absurd h (by decide), fun h => absurd h (Nat.lt_irrefl _)⟩
  | t + 1, ht => by
    obtain ⟨S, h1, h2, h3, h4, -⟩ := rkO_is hq t (by omega)
    have c6 := (cl_n6 hq).1
    have hs : ∀ j, j < 10 → hasB (nI S) (nI j) = S.testBit j := fun j hj => has_tb (by omega) hj
    rcases rkI_is hq (u := nI S) (w := (rkO q t).1) (cl (q 2)) c6 with ⟨-, g2⟩ | ⟨c, g1, g2, g3, g4⟩
    · have := cN_all (p := fun j => S.testBit j) (cl (q 2)) (fun j hj => by rw [← hs j (by omega)]; exact g2 j hj)
      omega
    · have g2' : S.testBit c = false := by rw [← hs c (by omega)]; exact g2
      have hah : ∀ j, j < cl (q 2) → ahN q j c = S.testBit j := fun j hj => by
        cases hj2 : S.testBit j with
        | false =>
          have a := g4 j hj (by rw [hs j (by omega)]; exact hj2)
          apply decide_eq_false
          rintro (z | ⟨z1, z2⟩)
          · omega
          · have := a.2 z2; omega
        | true =>
          apply decide_eq_true
          have hjc : ¬ j = c := fun e => by rw [e, g2'] at hj2; exact absurd hj2 (by decide)
          have : ¬ ahN q c j = true := fun z => by have := h4 j c hj g1 hj2 z; rw [g2'] at this; exact absurd this (by decide)
          have : ¬ (byN q j < byN q c ∨ byN q c = byN q j ∧ c < j) := fun z => this (decide_eq_true z)
          omega
      have e1 : (rkO q (t + 1)).1 = nI c := by show (rkI q (rkO q t).2 (rkO q t).1 (cl (q 2))).1 = _; rw [h2, g3]
      have e2 : (rkO q (t + 1)).2 = nI (S ||| 2 ^ c) := by
        show (rkO q t).2 ||| ((1 : Int32) <<< ((rkI q (rkO q t).2 (rkO q t).1 (cl (q 2))).1 &&& 31)) = _
        rw [h2, g3]
        exact (or_set S h1 c (by omega)).1
      have tb : ∀ j, (S ||| 2 ^ c).testBit j = (S.testBit j || decide (j = c)) := fun j => by
        rw [Nat.testBit_or, Nat.testBit_two_pow]
        congr 1
        exact decide_eq_decide.mpr eq_comm
      have cc : cN (fun z => ahN q z c) (cl (q 2)) = t := by rw [cN_ext (cl (q 2)) hah]; exact h3
      refine ⟨S ||| 2 ^ c, (or_set S h1 c (by omega)).2, e2, ?_, fun a b ha hb hSa hab => ?_, fun _ => ⟨c, g1, e1, by rw [cc]⟩⟩
      · rw [cN_ext (q := fun j => S.testBit j || decide (j = c)) (cl (q 2)) (fun j _ => tb j), cN_one (p := fun j => S.testBit j) (cl (q 2)) g2', h3, if_pos g1]
      · rw [tb, Bool.or_eq_true] at hSa ⊢
        rcases hSa with z | z
        · exact Or.inl (h4 a b ha hb z hab)
        · left
          rw [← hah b hb, ← of_decide_eq_true z]
          exact hab
theorem rank_eq {r q : Nat → Int32} {k : Int32} (h : Lv r q) (hw : Wf r) (hq : Wf q) (h0 : 0 ≤ k) (h1 : k < r 2) : fstN (fun n => decide (cntB (fun z => yAhead r (nI z) (nI n)) (cl (r 2)) = k)) (cl (r 2)) = (rkO q (cl k + 1)).1 := by
  obtain ⟨K, hK, e⟩ := kr_nI hw h0 h1
  have c6 := (cl_n6 hw)
  have ec : cl (r 2) = cl (q 2) := by rw [h.2.2.1]
  have hKc : K < cl (r 2) := by
    rw [e, Int32.lt_iff_toInt_lt, nI_ti (by omega)] at h1
    omega
  obtain ⟨S, -, -, -, -, s5⟩ := rkO_is hq (K + 1) (by omega)
  obtain ⟨c, t1, t2, t3⟩ := s5 (Nat.succ_pos K)
  have cn : ∀ n, n < cl (r 2) → cntB (fun z => yAhead r (nI z) (nI n)) (cl (r 2)) = nI (cN (fun z => ahN q z n) (cl (q 2))) := fun n hn => by
    rw [cntB_nI, ← ec]
    exact congrArg nI (cN_ext (cl (r 2)) (fun j hj => ah_eq h hw hq hj hn))
  have lt : ∀ n, cN (fun z => ahN q z n) (cl (q 2)) < 2147483648 := fun n => by have := cN_le (p := fun z => ahN q z n) (cl (q 2)); omega
  rw [e, cl_nI (by omega), t2]
  refine fst_hit (decide_eq_true ?_) (by omega) fun j hj => decide_eq_false fun z => ?_
  · rw [cn c (by omega), show cN (fun z => ahN q z c) (cl (q 2)) = K by omega]
  · rw [cn j (by omega)] at z
    have z2 : cN (fun z => ahN q z j) (cl (q 2)) = K := by rw [← cl_nI (lt j), z, cl_nI (by omega)]
    have jc : ¬ j = c := by omega
    by_cases a : ahN q j c = true
    · have := (cN_two (p := fun z => ahN q z j) (q := fun z => ahN q z c) (cl (q 2)) (fun y _ hy => by
        have y1 := of_decide_eq_true hy
        have y2 := of_decide_eq_true a
        exact decide_eq_true (by omega))).2 ⟨j, by omega, decide_eq_false (by omega), a⟩
      omega
    · have a2 : ahN q c j = true := by
        have : ¬ (byN q c < byN q j ∨ byN q j = byN q c ∧ j < c) := fun y => a (decide_eq_true y)
        exact decide_eq_true (by omega)
      have := (cN_two (p := fun z => ahN q z c) (q := fun z => ahN q z j) (cl (q 2)) (fun y _ hy => by
        have y1 := of_decide_eq_true hy
        have y2 := of_decide_eq_true a2
        exact decide_eq_true (by omega))).2 ⟨c, by omega, decide_eq_false (by omega), a2⟩
      omega
