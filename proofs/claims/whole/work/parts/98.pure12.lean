theorem it_Y {tx : Nat → Int32} {N : Nat} {T : T5} {z : M4} {q ot : Nat → Int32} (h : T.2.2.2.1 = z.1) (hN : z.1 ≤ N) : iR tx N (rdNum tx N T q) (mdY tx N z ot) := by
  obtain ⟨e1, e2⟩ := tk_eq (tx := tx) (lo := 0) (hi := 99) h hN
  unfold rdNum mdY
  rw [e1]
  by_cases c : nmB tx N 0 99 z = true
  · rw [if_pos c, if_pos c, (e2 c).1]
    exact iR_end (e2 c).2.1 (e2 c).2.2 Lv_new
  · rw [if_neg c, if_neg c]
    exact iR_no (fl_eq h hN)
theorem it_W {tx : Nat → Int32} {N : Nat} {T : T5} {z : M4} {q ot : Nat → Int32} (h : T.2.2.2.1 = z.1) (hN : z.1 ≤ N) (hL : Lv q ot) : iR tx N (rdWait tx N T q) (mdW tx N z ot) := by
  obtain ⟨e1, e2⟩ := tk_eq (tx := tx) (lo := 1) (hi := 99) h hN
  unfold rdWait mdW
  rw [e1]
  by_cases c : nmB tx N 1 99 z = true
  · rw [if_pos c, if_pos c, (e2 c).1]
    exact iR_end (e2 c).2.1 (e2 c).2.2 (by rw [mn_eq, ← hL.1]; exact hL.updL (by omega) (by omega) _)
  · rw [if_neg c, if_neg c]
    exact iR_no (fl_eq h hN)
theorem it_P {tx : Nat → Int32} {N : Nat} {T : T5} {z : M4} {q ot : Nat → Int32} (h : T.2.2.2.1 = z.1) (hN : z.1 ≤ N) (hF : (fhT N T).1 = (flZ z).2.2.2) (hL : Lv q ot) (hw : Wf q) : iR tx N (rdPl tx N T q) (mdP tx N z ot) := by
  obtain ⟨e1, e2⟩ := tk_eq (tx := tx) (lo := 0) (hi := 5) h hN
  unfold rdPl mdP
  rw [← hL.2.1]
  by_cases c0 : q 1 = 3
  · rw [if_pos c0, if_neg (by rw [c0]; decide)]
    exact iR_no hF
  · have hb : bd (q 1) 0 2 := by
      refine ⟨hw.2.1.1, ?_⟩
      have := hw.n3
      have : (q 1).toInt ≠ 3 := fun e => c0 (Int32.toInt_inj.mp e)
      omega
    rw [if_neg c0, if_pos (show q 1 < 3 by rw [Int32.lt_iff_toInt_lt, show (3 : Int32).toInt = 3 from rfl]; have := hb.2; omega), e1]
    by_cases c : nmB tx N 0 5 z = true
    · obtain ⟨v1, h1, n1⟩ := e2 c
      obtain ⟨e3, e4⟩ := tk_eq (tx := tx) (lo := 1) (hi := 9) h1 n1
      rw [if_pos c, if_pos c, e3]
      by_cases d : nmB tx N 1 9 (nxZ tx N z) = true
      · obtain ⟨v2, h2, n2⟩ := e4 d
        rw [if_pos d, if_pos d, v1, v2]
        exact iR_end h2 n2 (hL.adPL hb _ _)
      · rw [if_neg d, if_neg d]
        exact iR_no (fl_eq h1 n1)
    · rw [if_neg c, if_neg c]
      exact iR_no (fl_eq h hN)
theorem it_N {tx : Nat → Int32} {N : Nat} {T : T5} {z : M4} {q ot : Nat → Int32} (h : T.2.2.2.1 = z.1) (hN : z.1 ≤ N) (hF : (fhT N T).1 = (flZ z).2.2.2) (hL : Lv q ot) (hw : Wf q) : iR tx N (rdNut tx N T q) (mdN tx N z ot) := by
  obtain ⟨e1, e2⟩ := tk_eq (tx := tx) (lo := 0) (hi := q 1 - 1) h hN
  unfold rdNut mdN
  rw [← hL.2.1, ← hL.2.2.1]
  by_cases c0 : q 2 = 6
  · rw [if_pos c0, if_neg (by rw [c0]; decide)]
    exact iR_no hF
  · have hb : bd (q 2) 0 5 := by
      refine ⟨hw.2.2.1.1, ?_⟩
      have := hw.n6
      have : (q 2).toInt ≠ 6 := fun e => c0 (Int32.toInt_inj.mp e)
      omega
    rw [if_neg c0, if_pos (show q 2 < 6 by rw [Int32.lt_iff_toInt_lt, show (6 : Int32).toInt = 6 from rfl]; have := hb.2; omega), e1]
    by_cases c : nmB tx N 0 (q 1 - 1) z = true
    · obtain ⟨v1, h1, n1⟩ := e2 c
      obtain ⟨e3, e4⟩ := tk_eq (tx := tx) (lo := 0) (hi := 5) h1 n1
      rw [if_pos c, if_pos c, e3]
      by_cases d : nmB tx N 0 5 (nxZ tx N z) = true
      · obtain ⟨v2, h2, n2⟩ := e4 d
        obtain ⟨e5, e6⟩ := tk_eq (tx := tx) (lo := 0) (hi := 9) h2 n2
        rw [if_pos d, if_pos d, e5]
        by_cases f : nmB tx N 0 9 (nxZ tx N (nxZ tx N z)) = true
        · obtain ⟨v3, h3, n3⟩ := e6 f
          obtain ⟨e7, e8⟩ := tk_eq (tx := tx) (lo := 1) (hi := 9) h3 n3
          rw [if_pos f, if_pos f, e7]
          by_cases k : nmB tx N 1 9 (nxZ tx N (nxZ tx N (nxZ tx N z))) = true
          · obtain ⟨v4, h4, n4⟩ := e8 k
            rw [if_pos k, if_pos k, v1, v2, v3, v4]
            exact iR_end h4 n4 (hL.adNL hb _ _ _ _)
          · rw [if_neg k, if_neg k]
            exact iR_no (fl_eq h3 n3)
        · rw [if_neg f, if_neg f]
          exact iR_no (fl_eq h2 n2)
      · rw [if_neg d, if_neg d]
        exact iR_no (fl_eq h1 n1)
    · rw [if_neg c, if_neg c]
      exact iR_no (fl_eq h hN)
theorem nm_nutq {tx : Nat → Int32} {N : Nat} {z : M4} {q : Nat → Int32} (hw : Wf q) (c : nmB tx N 0 (q 2 - 1) z = true) : yNut q (nmV tx (nxZ tx N z)) = true := by
  unfold nmB at c
  rw [Bool.and_eq_true, wth_ti] at c
  have a := hw.2.2.1
  rw [ti_sub (by rw [show (1 : Int32).toInt = 1 from rfl]; have := a.1; omega) (by rw [show (1 : Int32).toInt = 1 from rfl]; have := a.2; omega), show (1 : Int32).toInt = 1 from rfl, show (0 : Int32).toInt = 0 from rfl] at c
  rw [yNut_ti]
  omega
theorem it_S {tx : Nat → Int32} {N : Nat} {T : T5} {z : M4} {q ot : Nat → Int32} (h : T.2.2.2.1 = z.1) (hN : z.1 ≤ N) (hL : Lv q ot) (hw : Wf q) : iR tx N (rdStk tx N T q) (mdS tx N z ot) := by
  obtain ⟨e1, e2⟩ := tk_eq (tx := tx) (lo := 0) (hi := q 2 - 1) h hN
  unfold rdStk mdS
  rw [← hL.2.2.1, e1]
  by_cases c : nmB tx N 0 (q 2 - 1) z = true
  · obtain ⟨v1, h1, n1⟩ := e2 c
    have k1 := nm_nutq hw c
    obtain ⟨e3, e4⟩ := tk_eq (tx := tx) (lo := 0) (hi := q 2 - 1) h1 n1
    rw [if_pos c, if_pos c, v1, brk_m k1, hL.mbrk k1]
    by_cases b : mBrk ot (nmV tx (nxZ tx N z)) = true
    · rw [if_pos b, if_pos b]
      exact iR_no (fl_eq h hN)
    · rw [if_neg b, if_neg b, e3]
      by_cases d : nmB tx N 0 (q 2 - 1) (nxZ tx N z) = true
      · obtain ⟨v2, h2, n2⟩ := e4 d
        have k2 := nm_nutq hw d
        rw [if_pos d, if_pos d, v2, hL.can]
        by_cases f : yCan ot (nmV tx (nxZ tx N z)) (nmV tx (nxZ tx N (nxZ tx N z))) = true
        · rw [if_pos f, if_pos f]
          exact iR_end h2 n2 (hL.stkL hw k1 k2)
        · rw [if_neg f, if_neg f]
          exact iR_no (fl_eq h1 n1)
      · rw [if_neg d, if_neg d]
        exact iR_no (fl_eq h1 n1)
  · rw [if_neg c, if_neg c]
    exact iR_no (fl_eq h hN)
theorem it_I {tx : Nat → Int32} {N n : Nat} {T : T5} {z : M4} {q ot : Nat → Int32} (R : TkR tx N (ntT tx N T) (nxZ tx N z)) (hL : 0 < n → Lv q ot) (hw : Wf q) : iR tx N (rdI tx N (decide (n = 0)) (ntT tx N T) q) (mdI tx N (decide (n = 0)) z ot) := by
  have W := fun i (hi : i < 5) => word_eq hi R
  obtain ⟨s2, s3, s0, sv, sb, sf⟩ := tk_sort R
  have beh : ∀ i, i < 5 → (nxZ tx N z).2.2.1 = cdI i → (ntT tx N T).2.2.2.1 = (nxZ tx N z).1 ∧ (nxZ tx N z).1 ≤ N := fun i hi e => sb fun e0 => by
    have a := of_decide_eq_true (s0.symm.trans (decide_eq_true e0))
    have b := (cd_N i hi).2.2.2.1
    rw [← e, a] at b
    exact absurd b (by decide)
  unfold rdI mdI
  rw [W 0 (by decide), W 1 (by decide), W 2 (by decide), W 3 (by decide), W 4 (by decide)]
  by_cases hn : n = 0
  · rw [if_pos (decide_eq_true hn), if_pos (decide_eq_true hn)]
    by_cases e : (nxZ tx N z).2.2.1 = cdI 0
    · rw [if_pos (decide_eq_true e), if_pos (show (nxZ tx N z).2.2.1 = 493294 from e)]
      exact it_Y (beh 0 (by decide) e).1 (beh 0 (by decide) e).2
    · rw [if_neg (fun x => e (of_decide_eq_true x)), if_neg (show ¬ (nxZ tx N z).2.2.1 = 493294 from e)]
      exact iR_no sf
  · have L := hL (by omega)
    rw [if_neg (fun x => hn (of_decide_eq_true x)), if_neg (fun x => hn (of_decide_eq_true x))]
    by_cases e : (nxZ tx N z).2.2.1 = cdI 1
    · rw [if_pos (decide_eq_true e), if_pos (show (nxZ tx N z).2.2.1 = 235997865 from e)]
      exact it_P (beh 1 (by decide) e).1 (beh 1 (by decide) e).2 sf L hw
    rw [if_neg (fun x => e (of_decide_eq_true x)), if_neg (show ¬ (nxZ tx N z).2.2.1 = 235997865 from e)]
    by_cases e : (nxZ tx N z).2.2.1 = cdI 2
    · rw [if_pos (decide_eq_true e), if_pos (show (nxZ tx N z).2.2.1 = 10793 from e)]
      exact it_N (beh 2 (by decide) e).1 (beh 2 (by decide) e).2 sf L hw
    rw [if_neg (fun x => e (of_decide_eq_true x)), if_neg (show ¬ (nxZ tx N z).2.2.1 = 10793 from e)]
    by_cases e : (nxZ tx N z).2.2.1 = cdI 3
    · rw [if_pos (decide_eq_true e), if_pos (show (nxZ tx N z).2.2.1 = 283619210 from e)]
      exact it_S (beh 3 (by decide) e).1 (beh 3 (by decide) e).2 L hw
    rw [if_neg (fun x => e (of_decide_eq_true x)), if_neg (show ¬ (nxZ tx N z).2.2.1 = 283619210 from e)]
    by_cases e : (nxZ tx N z).2.2.1 = cdI 4
    · rw [if_pos (decide_eq_true e), if_pos (show (nxZ tx N z).2.2.1 = 453701 from e)]
      exact it_W (beh 4 (by decide) e).1 (beh 4 (by decide) e).2 L
    rw [if_neg (fun x => e (of_decide_eq_true x)), if_neg (show ¬ (nxZ tx N z).2.2.1 = 453701 from e)]
    exact iR_no sf
theorem it_Wf {tx : Nat → Int32} {N n : Nat} {T : T5} {z : M4} {q : Nat → Int32} (R : TkR tx N (ntT tx N T) (nxZ tx N z)) (hw : Wf q) : Wf (rdI tx N (decide (n = 0)) (ntT tx N T) q).2.2 := by
  refine (rdI_G (fun e => ?_)).2 hw
  rcases R with ⟨s, t, e0⟩ | ⟨a, b, c, d, -⟩
  · rw [s] at e; exact absurd e (by decide)
  · rw [a, b]; omega
theorem nt_0 {tx : Nat → Int32} {N : Nat} {A : T5} (h : ¬ skF (fun k => wth (tx k) 32 32) N A.2.2.2.1 < N) : (ntT tx N A).2.1 = 0 := by
  unfold ntT
  rw [sp_eq, if_neg h]
/-- the whole text -/
theorem read_is {tx : Nat → Int32} {N : Nat} : ∀ (F2 F1 n : Nat) (T : T5) (w : M4) (q ot : Nat → Int32), skF (fun k => wth (tx k) 32 32) N T.2.2.2.1 = skF (fun k => wth (tx k) 32 32) N w.1 → w.1 ≤ N → N + 1 ≤ F1 + w.1 → N + 1 ≤ F2 + w.1 → n ≤ w.1 → (0 < n → Lv q ot ∧ skF (fun k => wth (tx k) 32 32) N w.1 < N) → Wf q → Wf ot →
    ((rdM tx N F2 n w ot).1 = true ∧ (rdC tx N F1 n T q).1 = nI (rdM tx N F2 n w ot).2.1 ∧ (rdM tx N F2 n w ot).2.1 ≤ N ∧ Lv (rdC tx N F1 n T q).2.2 (rdM tx N F2 n w ot).2.2.2 ∧ Wf (rdM tx N F2 n w ot).2.2.2) ∨ ((rdM tx N F2 n w ot).1 = false ∧ (rdC tx N F1 n T q).1 = -1 ∧ (rdC tx N F1 n T q).2.1.1 = (rdM tx N F2 n w ot).2.2.1.2.2.2)
  | 0, _, _, _, _, _, _, _, h1, _, h2, _, _, _, _ => absurd h2 (by omega)
  | F2 + 1, 0, _, _, _, _, _, _, h1, h2, _, _, _, _, _ => absurd h2 (by omega)
  | F2 + 1, F1 + 1, n, T, w, q, ot, hs, hN, hF1, hF2, hn, hL, hq, ho => by
    obtain ⟨R, -⟩ := nt_rel (tx := tx) hs hN
    have I := it_I (n := n) R (fun h => (hL h).1) hq
    have Wq := it_Wf (n := n) R hq
    have G := mdI_G (tx := tx) (b := decide (n = 0)) (ot := ot) hN
    have n0 : ¬ ((ntT tx N T).2.1 = 0 ∧ 0 < n) := fun e => by
      have l := (hL e.2).2
      have a := e.1
      unfold ntT at a
      rw [sp_eq, hs, if_pos l] at a
      split at a
      · have a1 : (1 : Int32) = 0 := a
        exact absurd a1 (by decide)
      · split at a
        · have a2 : (if skF (fun k => wth (tx k) 48 57) N (skF (fun k => wth (tx k) 32 32) N w.1 + 1) - skF (fun k => wth (tx k) 32 32) N w.1 ≤ 2 then (2 : Int32) else 4) = 0 := a
          split at a2
          · exact absurd a2 (by decide)
          · exact absurd a2 (by decide)
        · have a2 : (if tx (skF (fun k => wth (tx k) 32 32) N w.1) = 59 then (3 : Int32) else 4) = 0 := a
          split at a2
          · exact absurd a2 (by decide)
          · exact absurd a2 (by decide)
    have eC : rdC tx N (F1 + 1) n T q = if (rdI tx N (decide (n = 0)) (ntT tx N T) q).1 = true then (if (ntT tx N (rdI tx N (decide (n = 0)) (ntT tx N T) q).2.1).2.1 = 3 then rdC tx N F1 (n + 1) (ntT tx N (rdI tx N (decide (n = 0)) (ntT tx N T) q).2.1) (rdI tx N (decide (n = 0)) (ntT tx N T) q).2.2 else (-1, fhT N (ntT tx N (rdI tx N (decide (n = 0)) (ntT tx N T) q).2.1), (rdI tx N (decide (n = 0)) (ntT tx N T) q).2.2)) else (-1, (rdI tx N (decide (n = 0)) (ntT tx N T) q).2.1, (rdI tx N (decide (n = 0)) (ntT tx N T) q).2.2) := if_neg n0
    have eM : rdM tx N (F2 + 1) n w ot = if (mdI tx N (decide (n = 0)) w ot).1 = true then (if skF (fun k => wth (tx k) 32 32) N (mdI tx N (decide (n = 0)) w ot).2.1.1 < N then rdM tx N F2 (n + 1) (skF (fun k => wth (tx k) 32 32) N (mdI tx N (decide (n = 0)) w ot).2.1.1, (mdI tx N (decide (n = 0)) w ot).2.1.2) (mdI tx N (decide (n = 0)) w ot).2.2 else (true, n + 1, (skF (fun k => wth (tx k) 32 32) N (mdI tx N (decide (n = 0)) w ot).2.1.1, (mdI tx N (decide (n = 0)) w ot).2.1.2), (mdI tx N (decide (n = 0)) w ot).2.2)) else (false, n, (mdI tx N (decide (n = 0)) w ot).2.1, (mdI tx N (decide (n = 0)) w ot).2.2) := rfl
    rw [eC, eM]
    generalize rdI tx N (decide (n = 0)) (ntT tx N T) q = c at I Wq
    generalize mdI tx N (decide (n = 0)) w ot = d at I G
    rcases I with ⟨d1, c1, t3, tb, le, L⟩ | ⟨d1, ⟨c1, t3, fe⟩ | ⟨c1, fe⟩⟩
    · have g := (G.1 d1).1
      have Wd := G.2 ho
      rw [if_pos c1, if_pos d1, if_pos t3]
      have sg := skF_ge (p := fun k => wth (tx k) 32 32) (N := N) (s := d.2.1.1)
      by_cases hl : skF (fun k => wth (tx k) 32 32) N d.2.1.1 < N
      · rw [if_pos hl]
        refine read_is F2 F1 (n + 1) (ntT tx N c.2.1) (skF (fun k => wth (tx k) 32 32) N d.2.1.1, d.2.1.2) c.2.2 d.2.2 ?_ (Nat.le_of_lt hl) ?_ ?_ ?_ (fun _ => ⟨L, ?_⟩) Wq Wd
        · rw [tb]; exact skF_idem.symm
        · show N + 1 ≤ F1 + skF (fun k => wth (tx k) 32 32) N d.2.1.1; omega
        · show N + 1 ≤ F2 + skF (fun k => wth (tx k) 32 32) N d.2.1.1; omega
        · show n + 1 ≤ skF (fun k => wth (tx k) 32 32) N d.2.1.1; omega
        · show skF (fun k => wth (tx k) 32 32) N (skF (fun k => wth (tx k) 32 32) N d.2.1.1) < N
          rw [skF_idem]; exact hl
      · rw [if_neg hl]
        have sle := skF_le (p := fun k => wth (tx k) 32 32) le
        obtain ⟨F, eF⟩ : ∃ F, F1 = F + 1 := ⟨F1 - 1, by omega⟩
        have e0 : (ntT tx N (ntT tx N c.2.1)).2.1 = 0 := nt_0 (by rw [tb]; exact hl)
        rw [eF]
        have eC2 : rdC tx N (F + 1) (n + 1) (ntT tx N c.2.1) c.2.2 = (nI (n + 1), ntT tx N (ntT tx N c.2.1), c.2.2) := if_pos ⟨e0, Nat.succ_pos n⟩
        rw [eC2]
        exact Or.inl ⟨rfl, rfl, show n + 1 ≤ N by omega, L, Wd⟩
    · rw [if_pos c1, if_neg t3, if_neg (show ¬ d.1 = true by rw [d1]; decide)]
      exact Or.inr ⟨rfl, rfl, fe⟩
    · rw [if_neg (show ¬ c.1 = true by rw [c1]; decide), if_neg (show ¬ d.1 = true by rw [d1]; decide)]
      exact Or.inr ⟨rfl, rfl, fe⟩
