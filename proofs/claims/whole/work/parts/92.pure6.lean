/-! ===== the best bout of a player ===== -/
theorem bt_pair {b : Bool} {r q : Nat → Int32} {i j : Int32} (h : Lv r q) (hw : Wf r) (hq : Wf q) (hc : yCan q i j = true) : Lv (fgt b i j 60 0 r).2 (btF b i j 60 0 q).2 := by
  have a := (Lv.fgtL (b := b) (i := i) (j := j) (m := 60) (n := 0) h hw).2
  rw [(fb_eq (b := b) (m := 60) (n := 0) hq hc).1] at a
  exact a
theorem Lv.nutLt {r q : Nat → Int32} (hq : Wf q) {a : Nat} (ha : a < 2147483648) (hn : yNut q (nI a) = true) : a < cl (q 2) := by
  have := nut_lt hn
  rw [cl_nI ha] at this
  have := (cl_n6 hq).2
  omega
theorem ft_k4 {b : Bool} {r q : Nat → Int32} {i j x : Int32} (h : Lv r q) (hw : Wf r) (hq : Wf q) (hc : yCan q i j = true) (hx : yNut q x = true) : yFact (fgt b i j 60 0 r).2 x 4 = (btF b i j 60 0 q).2 (33 + cl x) := by
  have hx1 : yNut (fgt b i j 60 0 r).2 x = true := fgt_nut.trans ((h.nut x).trans hx)
  exact (yFact_k (k := 4) hx1 (by decide)).trans ((bt_pair h hw hq hc).at hx1).2.2.2.2.1
theorem ft_k5 {b : Bool} {r q : Nat → Int32} {i j x : Int32} (h : Lv r q) (hw : Wf r) (hq : Wf q) (hc : yCan q i j = true) (hx : yNut q x = true) : yFact (fgt b i j 60 0 r).2 x 5 = (btF b i j 60 0 q).2 (39 + cl x) := by
  have hx1 : yNut (fgt b i j 60 0 r).2 x = true := fgt_nut.trans ((h.nut x).trans hx)
  exact (yFact_k (k := 5) hx1 (by decide)).trans ((bt_pair h hw hq hc).at hx1).2.2.2.2.2
theorem ft_lf {b : Bool} {r q : Nat → Int32} {i j : Int32} (h : Lv r q) (hw : Wf r) (hq : Wf q) (hc : yCan q i j = true) : yLeft (fgt b i j 60 0 r).2 i j = mLeft (btF b i j 60 0 q).2 i j := by
  rw [(bt_pair h hw hq hc).left i j]
  exact left_m (btF_nut.trans (yCan_nut hc).1) (btF_nut.trans (yCan_nut hc).2)
theorem bm_no {r : Nat → Int32} {p : Int32} {a j : Nat} (hj : j < 6) (h : yCan r (nI a) (nI j) = false) : bmF r p (6 * a + j + 1) = bmF r p (6 * a + j) := by
  have e1 : (6 * a + j) / 6 = a := by omega
  have e2 : (6 * a + j) % 6 = j := by omega
  show (if _ then (if _ then _ else _) else _) = _
  rw [e1, e2, if_neg (show ¬ yCan r (nI a) (nI j) = true by rw [h]; decide)]
  split
  · rfl
  · rfl
theorem bmF_s {r : Nat → Int32} {p : Int32} (n : Nat) : bmF r p (n + 1) = if yWof r (nI (n / 6)) p = true then (if yCan r (nI (n / 6)) (nI (n % 6)) = true then (if yLeft (fgt true (nI (n / 6)) (nI (n % 6)) 60 0 r).2 (nI (n / 6)) (nI (n % 6)) = nI (n / 6) then (if (bmF r p n).2 < yFact (fgt true (nI (n / 6)) (nI (n % 6)) 60 0 r).2 (nI (n / 6)) 5 then (10 * nI (n / 6) + nI (n % 6), yFact (fgt true (nI (n / 6)) (nI (n % 6)) 60 0 r).2 (nI (n / 6)) 5) else bmF r p n) else bmF r p n) else bmF r p n) else bmF r p n := rfl
theorem fit_i {r q : Nat → Int32} {p : Int32} {a : Nat} (h : Lv r q) (hw : Wf r) (hq : Wf q) (ha : a < 6) : ∀ j, j ≤ 6 → bmF r p (6 * a + j) = if q (9 + a) = p ∧ a < cl (q 2) then ftI q a (bmF r p (6 * a)) (min j (cl (q 2))) else bmF r p (6 * a)
  | 0, _ => by
    rw [Nat.zero_min]
    split
    · rfl
    · rfl
  | j + 1, hj => by
    have ih := fit_i (p := p) h hw hq ha j (by omega)
    cases hc : yCan q (nI a) (nI j) with
    | false =>
      rw [show 6 * a + (j + 1) = 6 * a + j + 1 from rfl, bm_no (by omega) ((h.can _ _).trans hc), ih]
      split
      · by_cases hn : j < cl (q 2)
        · rw [show min (j + 1) (cl (q 2)) = j + 1 by omega, show min j (cl (q 2)) = j by omega]
          show _ = (if yCan q (nI a) (nI j) = true then _ else _)
          rw [if_neg (by rw [hc]; decide)]
        · rw [show min (j + 1) (cl (q 2)) = min j (cl (q 2)) by omega]
      · rfl
    | true =>
      have na := Lv.nutLt (r := q) hq (show a < 2147483648 by omega) (yCan_nut hc).1
      have nj := Lv.nutLt (r := q) hq (show j < 2147483648 by omega) (yCan_nut hc).2
      have e1 : (6 * a + j) / 6 = a := by omega
      have e2 : (6 * a + j) % 6 = j := by omega
      have wo : yWof r (nI a) p = decide (q (9 + a) = p) := by
        rw [h.wof, yWof_m, (yCan_nut hc).1, (can_m hc).1, cl_nI (by omega)]
        rfl
      rw [show 6 * a + (j + 1) = (6 * a + j) + 1 from rfl, bmF_s, e1, e2]
      by_cases ho : q (9 + a) = p
      · rw [if_pos (show yWof r (nI a) p = true by rw [wo]; exact decide_eq_true ho), if_pos (show yCan r (nI a) (nI j) = true from (h.can _ _).trans hc), ih, if_pos (show q (9 + a) = p ∧ a < cl (q 2) from ⟨ho, na⟩), if_pos (show q (9 + a) = p ∧ a < cl (q 2) from ⟨ho, na⟩), show min (j + 1) (cl (q 2)) = j + 1 by omega, show min j (cl (q 2)) = j by omega]
        rw [ft_lf h hw hq hc, ft_k5 h hw hq hc (yCan_nut hc).1]
        show _ = (if yCan q (nI a) (nI j) = true then (if _ then (if _ then _ else _) else _) else _)
        rw [if_pos hc]
        split
        · by_cases hl : (ftI q a (bmF r p (6 * a)) j).2 < (btF true (nI a) (nI j) 60 0 q).2 (39 + cl (nI a))
          · rw [if_pos hl, if_neg (Int32.not_le.mpr hl)]
          · rw [if_neg hl, if_pos (Int32.not_lt.mp hl)]
        · rfl
      · rw [if_neg (show ¬ yWof r (nI a) p = true by rw [wo]; exact fun e => ho (of_decide_eq_true e)), ih, if_neg (fun e => ho e.1), if_neg (fun e => ho e.1)]
theorem fit_o {r q : Nat → Int32} {p : Int32} (h : Lv r q) (hw : Wf r) (hq : Wf q) : ∀ a, a ≤ 6 → bmF r p (6 * a) = ftO q p (min a (cl (q 2)))
  | 0, _ => by rw [Nat.zero_min]; rfl
  | a + 1, ha => by
    have ih := fit_o (p := p) h hw hq a (by omega)
    have c6 := (cl_n6 hq).1
    rw [show 6 * (a + 1) = 6 * a + 6 from rfl, fit_i h hw hq (by omega) 6 (Nat.le_refl _), ih, show min 6 (cl (q 2)) = cl (q 2) by omega]
    by_cases hn : a < cl (q 2)
    · rw [show min (a + 1) (cl (q 2)) = a + 1 by omega, show min a (cl (q 2)) = a by omega]
      show _ = (if q (9 + a) = p then _ else _)
      by_cases ho : q (9 + a) = p
      · rw [if_pos ⟨ho, hn⟩, if_pos ho]
      · rw [if_neg (fun e => ho e.1), if_neg ho]
    · rw [if_neg (fun e => hn e.2), show min (a + 1) (cl (q 2)) = min a (cl (q 2)) by omega]
theorem bm_1 {r : Nat → Int32} {p : Int32} : ∀ n, n ≤ 36 → (bmF r p n).1 = -1 → (bmF r p n).2 = -1
  | 0, _, _ => rfl
  | n + 1, hn, h => by
    have ih := bm_1 (r := r) (p := p) n (by omega)
    unfold bmF at h ⊢
    by_cases h1 : yWof r (nI (n / 6)) p = true
    · rw [if_pos h1] at h ⊢
      by_cases h2 : yCan r (nI (n / 6)) (nI (n % 6)) = true
      · rw [if_pos h2] at h ⊢
        by_cases h3 : yLeft (fgt true (nI (n / 6)) (nI (n % 6)) 60 0 r).2 (nI (n / 6)) (nI (n % 6)) = nI (n / 6)
        · rw [if_pos h3] at h ⊢
          by_cases h4 : (bmF r p n).2 < yFact (fgt true (nI (n / 6)) (nI (n % 6)) 60 0 r).2 (nI (n / 6)) 5
          · rw [if_pos h4] at h
            have e : 10 * nI (n / 6) + nI (n % 6) = -1 := h
            have e2 : ∀ a : Nat, a < 6 → ∀ b : Nat, b < 6 → ¬ 10 * nI a + nI b = -1 := by decide +kernel
            exact absurd e (e2 _ (by omega) _ (by omega))
          · rw [if_neg h4] at h ⊢; exact ih h
        · rw [if_neg h3] at h ⊢; exact ih h
      · rw [if_neg h2] at h ⊢; exact ih h
    · rw [if_neg h1] at h ⊢; exact ih h
theorem fit_eq {r q : Nat → Int32} {p w : Int32} (h : Lv r q) (hw : Wf r) (hq : Wf q) : (if w = 0 then (bmF r p 36).1 else if (bmF r p 36).1 = -1 then (bmF r p 36).1 else (bmF r p 36).2) = if w = 0 then (ftO q p (cl (q 2))).1 else (ftO q p (cl (q 2))).2 := by
  have e : bmF r p 36 = ftO q p (cl (q 2)) := (fit_o (p := p) h hw hq 6 (Nat.le_refl _)).trans (by rw [show min 6 (cl (q 2)) = cl (q 2) by have := (cl_n6 hq).1; omega])
  have i1 := bm_1 (r := r) (p := p) 36 (Nat.le_refl _)
  rw [← e]
  split
  · rfl
  · split
    · rename_i h1
      rw [h1, i1 h1]
    · rfl
/-! ===== pairs at rest ===== -/
theorem wof_has {q : Nat → Int32} {p : Int32} {a : Nat} (hq : Wf q) (ha : a < 10) : hasB (setB (fun j => yWof q (nI j) p) (cl (q 2))) (nI a) = yWof q (nI a) p := by
  rw [has_set (by have := (cl_n6 hq).1; omega) ha]
  cases hn : yWof q (nI a) p with
  | false => rw [Bool.and_false]
  | true => rw [decide_eq_true (Lv.nutLt (r := q) hq (show a < 2147483648 by omega) (yWhl_nut (yWof_whl hn)))]; rfl
theorem ch_can {q : Nat → Int32} {p s : Int32} {a b : Nat} (hp : ¬ p = s) (h1 : yWof q (nI a) p = true) (h2 : yWof q (nI b) s = true) : yCan q (nI a) (nI b) = true := by
  have a1 := yWof_whl h1
  have a2 := yWof_whl h2
  simp only [yWof, yWhl, Bool.and_eq_true, decide_eq_true_eq] at h1 h2
  simp only [yCan, Bool.and_eq_true, decide_eq_true_eq]
  exact ⟨⟨⟨⟨h1.1.1, h2.1.1⟩, by rw [h1.2, h2.2]; exact hp⟩, h1.1.2⟩, h2.1.2⟩
theorem g_alg (a b c d : Int32) : 3 * (a - b) - (c - d) = 3 * (a - b) - c + d := by
  generalize 3 * (a - b) = x
  apply Int32.toBitVec_inj.mp
  simp only [Int32.toBitVec_sub, Int32.toBitVec_add]
  rw [BitVec.sub_eq_add_neg, BitVec.neg_sub, BitVec.sub_eq_add_neg, BitVec.add_assoc]
theorem g_eq {r q : Nat → Int32} {i j x : Int32} (h : Lv r q) (hw : Wf r) (hq : Wf q) (hc : yCan q i j = true) (hx : yNut q x = true) : gtB (fgt true i j 60 0 r).2 r x = gnA (btF true i j 60 0 q).2 q x := by
  have hr := (h.nut x).trans hx
  unfold gtB gnA
  rw [ft_k4 h hw hq hc hx, ft_k5 h hw hq hc hx, show yFact r x 4 = q (33 + cl x) from (yFact_k (k := 4) hr (by decide)).trans (h.at hr).2.2.2.2.1, show yFact r x 5 = q (39 + cl x) from (yFact_k (k := 5) hr (by decide)).trans (h.at hr).2.2.2.2.2, g_alg]
theorem gn_eq {r q : Nat → Int32} {p s mi th : Int32} {P Q gn : Nat → Int32} (h : Lv r q) (hw : Wf r) (hq : Wf q) (hp : ¬ p = s) (hm : ∀ a, a < 6 → hasB mi (nI a) = yWof q (nI a) p) (ht : ∀ a, a < 6 → hasB th (nI a) = yWof q (nI a) s) : ∀ n, n ≤ 36 → ∀ m, m < n → chB r p s m = true → gnF q mi th gn n (2 * m) = g1F r p s P n m ∧ gnF q mi th gn n (2 * m + 1) = g2F r p s Q n m
  | 0, _, m, hm, _ => absurd hm (by omega)
  | n + 1, hn, m, hmn, hc => by
    have ih := gn_eq (P := P) (Q := Q) (gn := gn) h hw hq hp hm ht n (by omega) m
    have c0 : chB r p s n = (hasB mi (nI (n / 6)) && hasB th (nI (n % 6))) := by
      unfold chB
      rw [hm _ (by omega), ht _ (by omega), h.wof, h.wof]
    by_cases hcn : chB r p s n = true
    · rw [g1_t hcn, g2_t hcn]
      rw [c0, Bool.and_eq_true] at hcn
      have hg : gnF q mi th gn (n + 1) = upd (upd (gnF q mi th gn n) (2 * n) (gnA (btF true (nI (n / 6)) (nI (n % 6)) 60 0 q).2 q (nI (n / 6)))) (2 * n + 1) (gnA (btF true (nI (n / 6)) (nI (n % 6)) 60 0 q).2 q (nI (n % 6))) := by
        show (if _ then (if _ then _ else _) else _) = _
        rw [if_pos hcn.1, if_pos hcn.2]
      rw [hg]
      by_cases e : m = n
      · subst e
        have w1 := (hm (m / 6) (by omega)).symm.trans hcn.1
        have w2 := (ht (m % 6) (by omega)).symm.trans hcn.2
        have cn := ch_can hp w1 w2
        rw [upd_ne (by omega), upd_eq, upd_eq, upd_eq, upd_eq, g_eq h hw hq cn (yCan_nut cn).1, g_eq h hw hq cn (yCan_nut cn).2]
        exact ⟨rfl, rfl⟩
      · rw [upd_ne (by omega), upd_ne (by omega), upd_ne (by omega), upd_ne (by omega), upd_ne (by omega), upd_ne (by omega)]
        exact ih (by omega) hc
    · have hcf := Bool.eq_false_iff.mpr hcn
      have e : ¬ m = n := fun e => hcn (by rw [← e]; exact hc)
      rw [g1_f hcf, g2_f hcf]
      have hg : gnF q mi th gn (n + 1) = gnF q mi th gn n := by
        show (if _ then (if _ then _ else _) else _) = _
        rw [c0, Bool.and_eq_true] at hcn
        by_cases h1 : hasB mi (nI (n / 6)) = true
        · rw [if_pos h1, if_neg (fun h2 => hcn ⟨h1, h2⟩)]
        · rw [if_neg h1]
      rw [hg]
      exact ih (by omega) hc
theorem rsL_all {mi th : Int32} {gn : Nat → Int32} {C : Nat} : ∀ n, rsL mi th gn C n = (hasB mi (nI (C / 6)) && hasB th (nI (C % 6)) && allN (rsQ mi th gn C) n)
  | 0 => by show _ = (_ && true); rw [Bool.and_true]; rfl
  | n + 1 => by
    have ih := rsL_all (mi := mi) (th := th) (gn := gn) (C := C) n
    show (rsL mi th gn C n && _) = (_ && (allN (rsQ mi th gn C) n && _))
    rw [ih, Bool.and_assoc]
theorem rs_eq {r q : Nat → Int32} {p s mi th : Int32} {P Q gn : Nat → Int32} (h : Lv r q) (hw : Wf r) (hq : Wf q) (hp : ¬ p = s) (hm : ∀ a, a < 6 → hasB mi (nI a) = yWof q (nI a) p) (ht : ∀ a, a < 6 → hasB th (nI a) = yWof q (nI a) s) {N C : Nat} (hN : N = 36) (hC : C < N) :
    rsL mi th (gnF q mi th gn N) C 6 = (chB r p s C && rsB r p s (g1F r p s P N) (g2F r p s Q N) C) := by
  have c0 : chB r p s C = (hasB mi (nI (C / 6)) && hasB th (nI (C % 6))) := by
    unfold chB
    rw [hm _ (by omega), ht _ (by omega), h.wof, h.wof]
  have G := gn_eq (P := P) (Q := Q) (gn := gn) h hw hq hp hm ht N (by omega)
  rw [rsL_all, ← c0]
  cases hc : chB r p s C with
  | false => rfl
  | true =>
    rw [Bool.true_and, Bool.true_and]
    unfold rsB
    rw [allN_range]
    refine allN_ext 6 fun k hk => ?_
    have hcc := hc
    unfold chB at hcc
    rw [Bool.and_eq_true] at hcc
    unfold rsQ rsK
    rw [hm k hk, ht k hk, ← h.wof, ← h.wof, (G C hC hc).1, (G C hC hc).2]
    congr 1
    · cases w1 : yWof r (nI k) p with
      | false => rw [Bool.false_and, Bool.false_and]
      | true =>
        have cc : chB r p s (6 * k + C % 6) = true := by
          unfold chB
          rw [show (6 * k + C % 6) / 6 = k by omega, show (6 * k + C % 6) % 6 = C % 6 by omega, w1, hcc.2]
          rfl
        rw [(G _ (by omega) cc).1]
    · cases w1 : yWof r (nI k) s with
      | false => rw [Bool.false_and, Bool.false_and]
      | true =>
        have cc : chB r p s (6 * (C / 6) + k) = true := by
          unfold chB
          rw [show (6 * (C / 6) + k) / 6 = C / 6 by omega, show (6 * (C / 6) + k) % 6 = k by omega, w1, hcc.1]
          rfl
        rw [(G _ (by omega) cc).2]
theorem prC_ext {p q : Nat → Bool} : ∀ n, (∀ j, j < n → p j = q j) → prC p n = prC q n
  | 0, _ => rfl
  | n + 1, h => by
    have ih := prC_ext n (fun j hj => h j (by omega))
    unfold prC
    rw [ih, h n (Nat.lt_succ_self n)]
theorem prC_mono {p : Nat → Bool} {n : Nat} : ∀ d, prC p n ≤ prC p (n + d)
  | 0 => Nat.le_refl _
  | d + 1 => by
    have ih := prC_mono (p := p) (n := n) d
    show _ ≤ (if p (n + d) = true then prC p (n + d) + 1 else prC p (n + d))
    split <;> omega
theorem prC_lt {p : Nat → Bool} {z n : Nat} (hz : p z = true) (h : z < n) : prC p z < prC p n := by
  have a := prC_mono (p := p) (n := z + 1) (n - (z + 1))
  rw [show z + 1 + (n - (z + 1)) = n by omega] at a
  have b : prC p (z + 1) = prC p z + 1 := by show (if _ then _ else _) = _; rw [if_pos hz]
  omega
theorem prC_le {p : Nat → Bool} : ∀ n, prC p n ≤ n
  | 0 => Nat.le_refl _
  | n + 1 => by
    have ih := prC_le (p := p) n
    unfold prC
    split <;> omega
theorem prC_hit {p : Nat → Bool} {K : Nat} : ∀ n, K < prC p n → ∃ z, z < n ∧ p z = true ∧ prC p z = K
  | 0, h => absurd h (Nat.not_lt_zero _)
  | n + 1, h => by
    unfold prC at h
    by_cases hp : p n = true
    · rw [if_pos hp] at h
      by_cases e : prC p n = K
      · exact ⟨n, Nat.lt_succ_self n, hp, e⟩
      · obtain ⟨z, h1, h2, h3⟩ := prC_hit n (show K < prC p n by omega)
        exact ⟨z, by omega, h2, h3⟩
    · rw [if_neg hp] at h
      obtain ⟨z, h1, h2, h3⟩ := prC_hit n h
      exact ⟨z, by omega, h2, h3⟩
theorem rk_prC {r : Nat → Int32} {p q : Int32} {P Q : Nat → Int32} : ∀ n, rkF r p q P Q n = prC (fun C => chB r p q C && rsB r p q P Q C) n
  | 0 => rfl
  | n + 1 => by
    have ih := rk_prC (r := r) (p := p) (q := q) (P := P) (Q := Q) n
    unfold rkF prC
    rw [ih]
    by_cases h : chB r p q n = true ∧ rsB r p q P Q n = true
    · rw [if_pos h, if_pos (Bool.and_eq_true _ _ ▸ h)]
    · rw [if_neg h, if_neg (fun e => h ((Bool.and_eq_true _ _).mp e))]
theorem rp_at {r : Nat → Int32} {p q : Int32} {P Q Z : Nat → Int32} : ∀ n z, z < n → (chB r p q z && rsB r p q P Q z) = true → rpF r p q P Q Z n (prC (fun C => chB r p q C && rsB r p q P Q C) z) = nI (10 * (z / 6) + z % 6)
  | 0, z, h, _ => absurd h (Nat.not_lt_zero _)
  | n + 1, z, h, hz => by
    have ih := rp_at (r := r) (p := p) (q := q) (P := P) (Q := Q) (Z := Z) n z
    have st : rpF r p q P Q Z (n + 1) = if chB r p q n = true ∧ rsB r p q P Q n = true then upd (rpF r p q P Q Z n) (rkF r p q P Q n) (nI (10 * (n / 6) + n % 6)) else rpF r p q P Q Z n := rfl
    rw [st]
    by_cases e : z = n
    · subst e
      rw [if_pos ((Bool.and_eq_true _ _).mp hz), rk_prC]
      exact upd_eq
    · have zn : z < n := by omega
      by_cases hc : chB r p q n = true ∧ rsB r p q P Q n = true
      · rw [if_pos hc, rk_prC, upd_ne (by have := prC_lt (p := fun C => chB r p q C && rsB r p q P Q C) hz zn; omega)]
        exact ih zn hz
      · rw [if_neg hc]; exact ih zn hz
theorem prX_of {p : Nat → Bool} {R : Nat → Int32} {k : Int32} {N : Nat} (hN : N = 36) (hk : -1 ≤ k) (hR : ∀ z, z < N → p z = true → R (prC p z) = nI (10 * (z / 6) + z % 6)) : prC9 (prC p N) R k = prX p k := by
  have hle := prC_le (p := p) N
  unfold prC9 prX
  rw [← hN]
  by_cases k1 : k = -1
  · rw [if_pos k1, fst_none (fun j hj => by
      rw [decide_eq_false (show ¬ nI (prC p j) = k from by rw [k1]; exact nI_ne1 (by have := prC_le (p := p) j; omega)), Bool.and_false]), if_pos rfl, if_pos k1]
  · rw [if_neg k1]
    have k0 : 0 ≤ k.toInt := by
      rw [Int32.le_iff_toInt_le, show (-1 : Int32).toInt = -1 from rfl] at hk
      have : k.toInt ≠ -1 := fun e => k1 (Int32.toInt_inj.mp e)
      omega
    obtain ⟨K, h1, h2, h3⟩ := nI_ofT k0
    rw [h2]
    have ni : ∀ z, z ≤ N → (nI (prC p z) = nI K ↔ prC p z = K) := fun z hz => by
      have := prC_le (p := p) z
      exact ⟨fun e => by rw [← cl_nI (n := prC p z) (by omega), ← cl_nI h1, e], fun e => by rw [e]⟩
    by_cases hK : prC p N ≤ K
    · rw [if_pos (show nI (prC p N) ≤ nI K from by rw [Int32.le_iff_toInt_le, nI_ti (by omega), nI_ti h1]; omega), fst_none (fun j hj => by
        cases pj : p j with
        | false => rfl
        | true => rw [decide_eq_false (show ¬ nI (prC p j) = nI K from fun e => by have := (ni j (by omega)).mp e; have := prC_lt pj hj; omega), Bool.and_false]), if_pos rfl, if_neg (nI_ne1 h1)]
    · rw [if_neg (show ¬ nI (prC p N) ≤ nI K from by rw [Int32.le_iff_toInt_le, nI_ti (by omega), nI_ti h1]; omega)]
      obtain ⟨z, z1, z2, z3⟩ := prC_hit N (show K < prC p N by omega)
      have hf : fstN (fun z => p z && decide (nI (prC p z) = nI K)) N = nI z := fst_hit (by show (p z && _) = true; rw [z2, z3, decide_eq_true rfl]; rfl) z1 (fun j hj => by
        show (p j && _) = false
        cases pj : p j with
        | false => rfl
        | true => rw [decide_eq_false (show ¬ nI (prC p j) = nI K from fun e => by have := (ni j (by omega)).mp e; have := prC_lt pj hj; omega), Bool.and_false])
      rw [hf, if_neg (nI_ne1 (by omega)), cl_nI (n := z) (by omega), if_pos (show wth (nI K) 0 35 = true from wth_nI (n := K) (m := 35) (by omega)), cl_nI h1, ← z3]
      exact hR z z1 z2
theorem pair_eq {r q : Nat → Int32} {p s k : Int32} {P Q Z gn : Nat → Int32} {N : Nat} (h : Lv r q) (hw : Wf r) (hq : Wf q) (hp : ¬ p = s) (hk : -1 ≤ k) (hN : N = 36) :
    prC9 (rkF r p s (g1F r p s P N) (g2F r p s Q N) N) (rpF r p s (g1F r p s P N) (g2F r p s Q N) Z N) k = prX (fun C => rsL (setB (fun j => yWof q (nI j) p) (cl (q 2))) (setB (fun j => yWof q (nI j) s) (cl (q 2))) (gnF q (setB (fun j => yWof q (nI j) p) (cl (q 2))) (setB (fun j => yWof q (nI j) s) (cl (q 2))) gn N) C 6) k := by
  have E := fun C (hC : C < N) => rs_eq (P := P) (Q := Q) (gn := gn) h hw hq hp (fun a ha => wof_has (p := p) hq (show a < 10 by omega)) (fun a ha => wof_has (p := s) hq (show a < 10 by omega)) hN hC
  rw [rk_prC, ← prC_ext N E]
  refine prX_of hN hk fun z hz hpz => ?_
  rw [prC_ext z (fun j hj => E j (by omega))]
  exact rp_at N z hz ((E z hz).symm.trans hpz)
