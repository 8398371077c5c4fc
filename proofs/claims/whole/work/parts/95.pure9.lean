theorem leaf_is {q r : Nat → Int32} {i s : Int32} {B P : Nat} {z : S4} {y : Nat × Int32 × Int32} (hL : Lv r (orR q i P B B)) (hw : Wf r) (hi : yNut r i = true) (hs : ioU P B = s) (hz : oWk B z y) (hp : ∀ p, p < B → z.2.2.1 p = nI (plI P B p)) : oSt B (kbS (yFact r i 5) (yFact r i 4) z) (oT q i s B P y) := by
  have e5 : yFact r i 5 = orR q i P B B (39 + cl i) := (yFact_k (k := 5) hi (by decide)).trans (hL.at hi).2.2.2.2.2
  have e4 : yFact r i 4 = orR q i P B B (33 + cl i) := (yFact_k (k := 4) hi (by decide)).trans (hL.at hi).2.2.2.2.1
  have h0 : 0 ≤ (orR q i P B B (39 + cl i)).toInt := by
    rw [← (hL.at hi).2.2.2.2.2]
    exact (hw.2.2.2.2.1 (cl i) (yNut_cl hw hi)).2.2.2.2.2.1
  rw [e5, e4]
  unfold oT
  rw [if_pos hs]
  generalize orR q i P B B (39 + cl i) = sc at h0
  generalize orR q i P B B (33 + cl i) = dm
  have acc : ∀ y' : Nat × Int32 × Int32, kbB sc dm z.1 z.2.1 = true → y' = (P, sc, dm) → oSt B (kbS sc dm z) y' := fun y' hk e => by
    subst e
    unfold kbS
    rw [hk, if_pos rfl, if_pos rfl, if_pos rfl]
    exact ⟨rfl, rfl, hp⟩
  have rej : ∀ y' : Nat × Int32 × Int32, kbB sc dm z.1 z.2.1 = false → oSt B z y' → oSt B (kbS sc dm z) y' := fun y' hk e => by
    unfold kbS
    rw [hk, if_neg (by decide), if_neg (by decide), if_neg (by decide)]
    exact e
  rcases hz with st | ⟨w1, w2⟩
  · have a1 := st.1
    have a2 := st.2.1
    by_cases h1 : y.2.1 < sc
    · rw [if_pos h1]
      refine acc _ ?_ rfl
      unfold kbB
      rw [a1, a2, decide_eq_false (Int32.not_lt.mpr (Int32.le_of_lt h1)), decide_eq_false (show ¬ sc = y.2.1 from fun e => by rw [e] at h1; exact Int32.lt_irrefl h1)]
      rfl
    · rw [if_neg h1]
      by_cases h2 : sc = y.2.1
      · rw [if_pos h2]
        by_cases h3 : y.2.2 ≤ dm
        · rw [if_pos h3]
          refine rej _ ?_ st
          unfold kbB
          rw [a1, a2, decide_eq_true h2, decide_eq_true h3, Bool.true_and, Bool.or_true]
          rfl
        · rw [if_neg h3]
          refine acc _ ?_ rfl
          unfold kbB
          rw [a1, a2, decide_eq_true h2, decide_eq_false h3, decide_eq_false (show ¬ sc < y.2.1 from fun e => by rw [h2] at e; exact Int32.lt_irrefl e)]
          rfl
      · rw [if_neg h2]
        refine rej _ ?_ st
        unfold kbB
        have h4 : sc < y.2.1 := by
          rw [Int32.lt_iff_toInt_lt] at h1 ⊢
          have : sc.toInt ≠ y.2.1.toInt := fun e => h2 (Int32.toInt_inj.mp e)
          omega
        rw [a1, decide_eq_true h4]
        rfl
  · have h1 : (-1 : Int32) < sc := by rw [Int32.lt_iff_toInt_lt, show (-1 : Int32).toInt = -1 from rfl]; omega
    rw [w2, if_pos h1]
    refine acc _ ?_ rfl
    unfold kbB
    rw [w1, decide_eq_false (Int32.not_lt.mpr (Int32.le_of_lt h1)), decide_eq_false (show ¬ sc = -1 from fun e => by rw [e] at h1; exact Int32.lt_irrefl h1)]
    rfl
theorem nI_inj {a b : Nat} (ha : a < 2147483648) (hb : b < 2147483648) (h : nI a = nI b) : a = b := by rw [← cl_nI ha, ← cl_nI hb, h]
theorem mt_no {q : Nat → Int32} {i : Int32} {S B L M P n C : Nat} {y : Nat × Int32 × Int32} (hS : S < 64) (hB : pc S = B) (hM : M + (L + 1) = B) (hU : pc (dU P M) = M) (hn : n < 6) (hT : (S.testBit n && !(dU P M).testBit n) = false) (hC : C / 6 ^ L = 6 * P + n) : oT q i (nI S) B C y = y := by
  unfold oT
  refine if_neg fun e => ?_
  rw [io_dU] at e
  have e2 := nI_inj (by have := (dU_64 (C := C) B).1; omega) (by omega) e
  rw [← hM, show M + (L + 1) = L + (M + 1) by omega, dU_add, hC, dU_s hn] at e2
  by_cases h1 : S.testBit n = true
  · have h2 : (dU P M).testBit n = true := by
      cases h3 : (dU P M).testBit n with
      | true => rfl
      | false => rw [h1, h3] at hT; exact absurd hT (by decide)
    rw [(pc_new _ (dU_64 M).1 n hn).2 h2] at e2
    have g := (pc_or _ (dU_64 (C := C) L).1 _ (dU_64 (C := P) M).1).1
    have g2 := (dU_64 (C := C) L).2
    rw [e2] at g
    omega
  · apply h1
    rw [← e2, Nat.testBit_or, Nat.testBit_or, Nat.testBit_two_pow, decide_eq_true rfl, Bool.true_or, Bool.or_true]
theorem mt_is {q : Nat → Int32} {i : Int32} {S B : Nat} (hq : Wf q) (hS : S < 64) (hB : pc S = B) : ∀ (L d M P T : Nat) (r : Nat → Int32) (z : S4) (y : Nat × Int32 × Int32), L ≤ d → M + L = B → dU P M ||| S = S → pc (dU P M) = M → T < 64 → (∀ j, T.testBit j = (S.testBit j && !(dU P M).testBit j)) → Lv r (orR q i P M M) → Wf r → yNut r i = true → (∀ p, p < M → z.2.2.1 p = nI (plI P M p)) → oWk B z y → oSt B (mtF i d M r (nI T) z) (fR (oT q i (nI S) B) (P * 6 ^ L) (6 ^ L) y) ∧ ∀ p, p < M → (mtF i d M r (nI T) z).2.2.1 p = nI (plI P M p)
  | 0, d, M, P, T, r, z, y, _, hM, hU, hp, hT, hTb, hL, hw, hi, hz, hy => by
    have hMB : M = B := hM
    have e := pc_same _ (dU_64 M).1 S hS hU (by omega)
    have t0 : T = 0 := Nat.eq_of_testBit_eq fun j => by rw [hTb, e, Nat.zero_testBit, Bool.and_not_self]
    subst hMB
    rw [t0, mtF_0 (show nI 0 = 0 from rfl), Nat.pow_zero, Nat.mul_one]
    refine ⟨?_, fun p hp => hz p hp⟩
    show oSt M _ (oT q i (nI S) M (P + 0) y)
    rw [Nat.add_zero]
    exact leaf_is hL hw hi (by rw [io_dU, e]) hy hz
  | L + 1, 0, _, _, _, _, _, _, h, _, _, _, _, _, _, _, _, _, _ => absurd h (by omega)
  | L + 1, d + 1, M, P, T, r, z, y, hd, hM, hU, hp, hT, hTb, hL, hw, hi, hz, hy => by
    have tn : ¬ T = 0 := fun e => by
      have e2 : dU P M = S := Nat.eq_of_testBit_eq fun j => by
        have a := hTb j
        rw [e, Nat.zero_testBit] at a
        have b : (dU P M ||| S).testBit j = S.testBit j := by rw [hU]
        rw [Nat.testBit_or] at b
        cases h1 : S.testBit j <;> cases h2 : (dU P M).testBit j <;> rw [h1, h2] at a b <;> first | rfl | exact absurd a (by decide) | exact absurd b (by decide)
      rw [e2] at hp
      omega
    have tI : ¬ nI T = 0 := fun e => tn (nI_inj (b := 0) (by omega) (by omega) e)
    rw [mtF_s tI]
    have st : ∀ n, n ≤ 6 → oWk B (fld (mtS i d M r (nI T)) n z) (fR (oT q i (nI S) B) (P * 6 ^ (L + 1)) (n * 6 ^ L) y) ∧ ((∃ j, j < n ∧ T.testBit j = true) → oSt B (fld (mtS i d M r (nI T)) n z) (fR (oT q i (nI S) B) (P * 6 ^ (L + 1)) (n * 6 ^ L) y)) ∧ ∀ p, p < M → (fld (mtS i d M r (nI T)) n z).2.2.1 p = nI (plI P M p) := by
      intro n
      induction n with
      | zero =>
        intro _
        rw [Nat.zero_mul]
        exact ⟨hy, fun ⟨j, hj, _⟩ => absurd hj (Nat.not_lt_zero _), hz⟩
      | succ n ih =>
        intro hn
        obtain ⟨i1, i2, i3⟩ := ih (by omega)
        have ea : P * 6 ^ (L + 1) + n * 6 ^ L = (6 * P + n) * 6 ^ L := by
          rw [Nat.pow_succ, Nat.add_mul, Nat.mul_comm (6 ^ L) 6, ← Nat.mul_assoc, Nat.mul_comm P 6]
        rw [Nat.succ_mul, fR_add, ea]
        generalize fR (oT q i (nI S) B) (P * 6 ^ (L + 1)) (n * 6 ^ L) y = Y at i1 i2
        cases hb : T.testBit n with
        | true =>
          have hbb := hTb n
          rw [hb] at hbb
          have hb2 := (Bool.and_eq_true _ _).mp hbb.symm
          have hSn := hb2.1
          have hUn : (dU P M).testBit n = false := by
            cases h : (dU P M).testBit n with
            | false => rfl
            | true => rw [h] at hb2; exact absurd hb2.2 (by decide)
          rw [mtS_t (show hasB (nI T) (nI n) = true from (has_tb (by omega) (by omega)).trans hb)]
          generalize fld (mtS i d M r (nI T)) n z = W at i1 i3
          have ao := and_out T hT n (by omega)
          rw [ao.1]
          have R := mt_is (i := i) hq hS hB L d (M + 1) (6 * P + n) (T ^^^ (T &&& 2 ^ n)) (fgt true i (nI n) 60 0 r).2 (W.1, W.2.1, upd W.2.2.1 M (nI n), W.2.2.2) Y (by omega) (by omega)
            (by rw [dU_s (by omega), Nat.or_assoc, hU]; exact (pc_new S hS n (by omega)).2 hSn)
            (by rw [dU_s (by omega), (pc_new _ (dU_64 M).1 n (by omega)).1 hUn, hp])
            ao.2
            (fun j => by
              rw [Nat.testBit_xor, Nat.testBit_and, Nat.testBit_two_pow, hTb, dU_s (by omega), Nat.testBit_or, Nat.testBit_two_pow]
              cases S.testBit j <;> cases (dU P M).testBit j <;> cases decide (n = j) <;> rfl)
            (by rw [orR_s (by omega)]; exact meet_eq hL hw (Wf_orR hq M))
            (Wf_fgt hw) (fgt_nut.trans hi)
            (fun p hp => by
              show upd W.2.2.1 M (nI n) p = _
              by_cases e : p = M
              · rw [e, upd_eq, plI_e (by omega)]
              · rw [upd_ne e, plI_s (by omega) (by omega)]
                exact i3 p (by omega))
            i1
          exact ⟨Or.inl R.1, fun _ => R.1, fun p hp => by rw [R.2 p (by omega), plI_s (by omega) hp]⟩
        | false =>
          have hbf : hasB (nI T) (nI n) = false := (has_tb (by omega) (by omega)).trans hb
          rw [mtS_f hbf, fR_id (6 ^ L) (fun C h1 h2 => mt_no (i := i) hS hB hM hp (show n < 6 by omega) (by rw [← hTb n]; exact hb) (div_rng h1 h2))]
          refine ⟨i1, fun ⟨j, hj, hj2⟩ => i2 ⟨j, ?_, hj2⟩, i3⟩
          have : ¬ j = n := fun e => by rw [e, hb] at hj2; exact absurd hj2 (by decide)
          omega
    obtain ⟨s1, s2, s3⟩ := st 6 (Nat.le_refl _)
    have e6 : 6 * 6 ^ L = 6 ^ (L + 1) := by rw [Nat.pow_succ, Nat.mul_comm]
    rw [e6] at s2
    refine ⟨s2 ?_, s3⟩
    apply Classical.byContradiction
    intro no
    apply tn
    refine Nat.eq_of_testBit_eq fun j => ?_
    rw [Nat.zero_testBit]
    by_cases hj : j < 6
    · cases h : T.testBit j with
      | false => rfl
      | true => exact absurd ⟨j, hj, h⟩ no
    · exact tb_64 T hT j (by omega)
theorem order_eq {r q : Nat → Int32} {i k : Int32} {p1 p2 : Nat → Int32} (h : Lv r q) (hw : Wf r) (hq : Wf q) (hi : yNut r i = true) (hk : -2 ≤ k) : orC9 (mtF i 5 0 r (setB (fun j => yCan r i (nI j)) (cl (r 2))) (-1, -1, p1, p2)) (bcF (setB (fun j => yCan r i (nI j)) (cl (r 2)))) k = orX q i k := by
  have es : setB (fun j => yCan r i (nI j)) (cl (r 2)) = setB (fun j => yCan q i (nI j)) (cl (q 2)) := by
    rw [h.2.2.1]
    exact setB_ext _ fun j _ => h.can i (nI j)
  have c6 := (cl_n6 hq).1
  obtain ⟨S, S1, S2, S3⟩ := set_tb (p := fun j => yCan q i (nI j)) (cl (q 2)) (by omega)
  have hS : S < 64 := Nat.lt_of_lt_of_le S1 (Nat.pow_le_pow_right (n := 2) (by decide) c6)
  have hb := pc_bc S hS
  have ci := yNut_cl hw hi
  have ei : nI (cl i) = i := by
    have a := (yNut_ti.mp hi).1
    obtain ⟨m, m1, m2, m3⟩ := nI_ofT a
    rw [m2, cl_nI m1]
  have h5 : pc S ≤ 5 := pc_5 S hS (cl i) ci (by
    rw [S3, ei]
    show (_ && yCan q i i) = false
    have : yCan q i i = false := by
      apply Bool.eq_false_iff.mpr
      intro c
      exact yCan_ne c rfl
    rw [this, Bool.and_false])
  have R := mt_is (i := i) hq hS rfl (pc S) 5 0 0 S r (-1, -1, p1, p2) (0, -1, 0) h5 (Nat.zero_add _) (Nat.zero_or S) (by decide +kernel) hS (fun j => by show _ = (_ && !(0 : Nat).testBit j); rw [Nat.zero_testBit]; simp) h hw hi (fun p hp => absurd hp (Nat.not_lt_zero _)) (Or.inr ⟨rfl, rfl⟩)
  unfold orX
  rw [es, S2, hb.1, cl_nI (by omega), orB_fR]
  have R1 := R.1
  rw [Nat.zero_mul] at R1
  generalize fR (oT q i (nI S) (pc S)) 0 (6 ^ pc S) (0, -1, 0) = Y at R1
  generalize mtF i 5 0 r (nI S) (-1, -1, p1, p2) = Z at R1
  unfold orC9 orY
  rw [R1.1, R1.2.1]
  by_cases k2 : k = -2
  · rw [if_pos k2, if_pos k2]
  · rw [if_neg k2, if_neg k2]
    by_cases k1 : k = -1
    · rw [if_pos k1, if_pos k1]
    · rw [if_neg k1, if_neg k1]
      obtain ⟨K, K1, K2⟩ := ky_nI hk k2 k1
      rw [K2]
      by_cases hl : nI (pc S) ≤ nI K
      · rw [if_pos hl, if_pos hl]
      · have hlt : K < pc S := by
          rw [nI_leI (by omega) (by omega)] at hl
          omega
        rw [if_neg hl, if_neg hl, if_pos (show wth (nI K) 0 5 = true from wth_nI (n := K) (m := 5) (by omega)), cl_nI K1, cl_nI (by omega)]
        exact R1.2.2 K hlt
