theorem ckX2_mostAlike : ckV yX2_mostAlike cX2_mostAlike 12 (some .int) 5 := ⟨(gw_in m_788 rfl), (gw_in m_70 rfl), ⟨(gw_in m_787 rfl), (gw_in m_24 rfl)⟩, by decide +kernel, by decide +kernel, by decide +kernel⟩
set_option maxHeartbeats 4000000 in
set_option maxRecDepth 100000 in
theorem kX2_mostAlike_0 (l : Launch) (g : gG) (u : Nat → Nat) (uf : Nat → Int32) (a : Nat → Nat) (r : Nat → Int32) (who cand : Int32) (L : Nat) (hw : Wf r) (hL : L < 210) : Met l yX2_mostAlike (.code yX2_mostAlike cX2_mostAlike 12 (some .int) :: gw) (rmN 5) (va_Pc [.ref (u 0), .int (0), .ref (a 0), .int (who), .int (cand), .int (nI L)] (rwPre g (uW g u uf ++ (yW g a r ++ [])))) (rxQi g (uW g u uf ++ (yW g a r ++ [])) (fun u9 : (Nat → Int32) => uW g u u9 ++ (yW g a r ++ [])) (moF (fun k => crk (yFact r who 1) (nI k) (nI (L % 10)) (nI (L / 10)) (yNext r)) cand 10)) 0 0 (dm (uW g u uf ++ (yW g a r ++ []))) := by
  refine met_start (by decide) (Nat.le_of_ble_eq_true rfl) ?_
  intro pp ee ss mm bl mt cd hC hpre ls hl
  obtain ⟨⟨hx, hb, hml, hown, hts⟩, hr, hlk, hnm⟩ := id hC
  have hl : lv_has ls 12 [(0, .ref (u 0)), (1, .int (0)), (2, .ref (a 0)), (3, .int (who)), (4, .int (cand)), (5, .int (nI L))] := hl
  obtain ⟨hP, hK, hD⟩ := hpre
  have hS : va_S (dm (uW g u uf ++ (yW g a r ++ []))) ss.heap ss.heap [] := va_S.rf
  have hD := vD_self hD
  refine lv_iconst (v := 0) hx hb dX2_mostAlike_0 rfl ?_
  refine lv_istore (lv' := [(6, .int (0)), (0, .ref (u 0)), (1, .int (0)), (2, .ref (a 0)), (3, .int (who)), (4, .int (cand)), (5, .int (nI L))]) hx hb dX2_mostAlike_1 hl (by decide) rfl (fun ls hl => ?_)
  refine lv_iconst (v := 0) hx hb dX2_mostAlike_3 rfl ?_
  refine lv_istore (lv' := [(7, .int (0)), (6, .int (0)), (0, .ref (u 0)), (1, .int (0)), (2, .ref (a 0)), (3, .int (who)), (4, .int (cand)), (5, .int (nI L))]) hx hb dX2_mostAlike_4 hl (by decide) rfl (fun ls hl => ?_)
  refine lv_iconst (v := 0) hx hb dX2_mostAlike_6 rfl ?_
  refine lv_istore (lv' := [(8, .int (0)), (7, .int (0)), (6, .int (0)), (0, .ref (u 0)), (1, .int (0)), (2, .ref (a 0)), (3, .int (who)), (4, .int (cand)), (5, .int (nI L))]) hx hb dX2_mostAlike_7 hl (by decide) rfl (fun ls hl => ?_)
  have cut9 : ∀ kk : Nat, ∀ (n S : Nat) (ux : Nat → Int32), 11 - n < kk → (hn : n ≤ 10) → (hSn : S ≤ n) → (hinv : ∀ v, cntB (fun z => decide (ux z = v)) S = cntB (fun j => hasB cand (nI j) && decide ((fun k => crk (yFact r who 1) (nI k) (nI (L % 10)) (nI (L / 10)) (yNext r)) j = v)) n) → ∀ (H : Heap) (locs : List Loc), kP g (uW g u ux ++ (yW g a r ++ [])) H → va_D (dm (uW g u uf ++ (yW g a r ++ []))) (uW g u ux ++ (yW g a r ++ [])) → va_S (dm (uW g u uf ++ (yW g a r ++ []))) ss.heap H locs → ∀ (ls : Array Slot), lv_has ls 12 [(0, .ref (u 0)), (1, .int (0)), (2, .ref (a 0)), (3, .int (who)), (4, .int (cand)), (5, .int (nI L)), (6, .int (nI S)), (7, .int (moF (fun k => crk (yFact r who 1) (nI k) (nI (L % 10)) (nI (L / 10)) (yNext r)) cand n)), (8, .int (nI n))] → W pp l ee (rmN 5) ss mm ([.ref (u 0), .int (0), .ref (a 0), .int (who), .int (cand), .int (nI L)] : List Value).toArray bl mt cd H locs 0 0 (MQ bl (rxQi g (uW g u uf ++ (yW g a r ++ [])) (fun u9 : (Nat → Int32) => uW g u u9 ++ (yW g a r ++ [])) (moF (fun k => crk (yFact r who 1) (nI k) (nI (L % 10)) (nI (L / 10)) (yNext r)) cand 10)) ([.ref (u 0), .int (0), .ref (a 0), .int (who), .int (cand), .int (nI L)] : List Value).toArray ss 0 0 (dm (uW g u uf ++ (yW g a r ++ [])))) (F0 mm 9 ls []) := by
    intro kk
    induction kk with
    | zero => intro n S ux hmu; exact absurd hmu (Nat.not_lt_zero _)
    | succ kk ih9 =>
      intro n S ux hmu hn hSn hinv H locs hP hD hS ls hl
      refine lv_iload hx hb dX2_mostAlike_9 (lv_at hl 8 rfl) ?_
      refine lv_bipush (v := 10) hx hb dX2_mostAlike_11 rfl ?_
      refine lv_icmp_ge (tgt := 109) hx hb dX2_mostAlike_13 (by decide) (fun c1 => ?_) (fun c1 => ?_)
      · skip
        have c1' := Int32.not_lt.mpr c1
        have hn9 : n = 10 := by have := lp_ge (by omega) c1; rw [show (10 : Int32).toInt = 10 from rfl] at this; omega
        subst hn9
        refine lv_iload hx hb dX2_mostAlike_109 (lv_at hl 7 rfl) ?_
        exact ret_rxi (S := (Nat → Int32)) ux hx hb hr hlk (by rfl) (hP) hS dX2_mostAlike_111
      · skip
        have c1' := Int32.not_le.mp c1
        have hn9 : n < 10 := by have := lp_lt (by omega) c1; rw [show (10 : Int32).toInt = 10 from rfl] at this; omega
        refine lv_iload hx hb dX2_mostAlike_16 (lv_at hl 4 rfl) ?_
        refine lv_iload hx hb dX2_mostAlike_18 (lv_at hl 8 rfl) ?_
        refine ro_i (run_SN (As := [.int (cand), .int (nI n)]) (rest := []) hC.1 ckX8_has (kX8_has l cand (nI n)) (hK.2.2 _ _ _ _ m_789) (fb_nil _) (fun _ _ _ => trivial) ⟨rfl, rfl, Nat.le_of_ble_eq_true rfl, Nat.le_of_ble_eq_true rfl⟩ rfl hl.1 rfl (Nat.le_of_ble_eq_true rfl) dX2_mostAlike_20 ⟨Nat.le_of_ble_eq_true rfl, Nat.le_of_ble_eq_true rfl⟩) ?_
        refine lv_if_ne (tgt := 29) hx hb dX2_mostAlike_23 (by decide) (fun c2 => ?_) (fun c2 => ?_)
        · skip
          have c2 := b2i_1 c2
          refine lv_iload_n hx hb dX2_mostAlike_29 rfl (lv_at hl 1 rfl) ?_
          refine lv_aload_n hx hb dX2_mostAlike_30 rfl (lv_at hl 2 rfl) ?_
          refine lv_iload_n hx hb dX2_mostAlike_31 rfl (lv_at hl 3 rfl) ?_
          refine lv_iload hx hb dX2_mostAlike_32 (lv_at hl 8 rfl) ?_
          refine lv_iload hx hb dX2_mostAlike_34 (lv_at hl 5 rfl) ?_
          refine ro_i (run_S (As := [.int (0), .ref (a 0), .int (who), .int (nI n), .int (nI L)]) (rest := []) hC.1 ckX2_answerOf (kX2_answerOf_0 l g a r who (nI n) L hw hL (by unfold bd; rw [nI_ti (by omega)]; omega)) (gw_in m_790 rfl) (fb_ro _ _ _) (fun U hU hW => ⟨by rw [hU]; exact (kP_app.mp (kP_app.mp hP).2).1, kK_warm hW hK⟩) ⟨rfl, rfl, Nat.le_of_ble_eq_true rfl, Nat.le_of_ble_eq_true rfl⟩ rfl hl.1 rfl (Nat.le_of_ble_eq_true rfl) dX2_mostAlike_36 ⟨Nat.le_of_ble_eq_true rfl, Nat.le_of_ble_eq_true rfl⟩) ?_
          refine top_i (x := crk (yFact r who 1) (nI n) (nI (L % 10)) (nI (L / 10)) (yNext r)) (y := (fun k => crk (yFact r who 1) (nI k) (nI (L % 10)) (nI (L / 10)) (yNext r)) n) rfl ?_
          refine lv_istore (lv' := [(9, .int ((fun k => crk (yFact r who 1) (nI k) (nI (L % 10)) (nI (L / 10)) (yNext r)) n)), (0, .ref (u 0)), (1, .int (0)), (2, .ref (a 0)), (3, .int (who)), (4, .int (cand)), (5, .int (nI L)), (6, .int (nI S)), (7, .int (moF (fun k => crk (yFact r who 1) (nI k) (nI (L % 10)) (nI (L / 10)) (yNext r)) cand n)), (8, .int (nI n))]) hx hb dX2_mostAlike_39 hl (by decide) rfl (fun ls hl => ?_)
          refine lv_iconst (v := 1) hx hb dX2_mostAlike_41 rfl ?_
          refine lv_istore (lv' := [(10, .int (1)), (9, .int ((fun k => crk (yFact r who 1) (nI k) (nI (L % 10)) (nI (L / 10)) (yNext r)) n)), (0, .ref (u 0)), (1, .int (0)), (2, .ref (a 0)), (3, .int (who)), (4, .int (cand)), (5, .int (nI L)), (6, .int (nI S)), (7, .int (moF (fun k => crk (yFact r who 1) (nI k) (nI (L % 10)) (nI (L / 10)) (yNext r)) cand n)), (8, .int (nI n))]) hx hb dX2_mostAlike_42 hl (by decide) rfl (fun ls hl => ?_)
          refine lv_iconst (v := 0) hx hb dX2_mostAlike_44 rfl ?_
          refine lv_istore (lv' := [(11, .int (0)), (10, .int (1)), (9, .int ((fun k => crk (yFact r who 1) (nI k) (nI (L % 10)) (nI (L / 10)) (yNext r)) n)), (0, .ref (u 0)), (1, .int (0)), (2, .ref (a 0)), (3, .int (who)), (4, .int (cand)), (5, .int (nI L)), (6, .int (nI S)), (7, .int (moF (fun k => crk (yFact r who 1) (nI k) (nI (L % 10)) (nI (L / 10)) (yNext r)) cand n)), (8, .int (nI n))]) hx hb dX2_mostAlike_45 hl (by decide) rfl (fun ls hl => ?_)
          have cut47 : ∀ kk : Nat, ∀ (q : Nat), 11 - q < kk → (hq : q ≤ S) → ∀ (H : Heap) (locs : List Loc), kP g (uW g u ux ++ (yW g a r ++ [])) H → va_D (dm (uW g u uf ++ (yW g a r ++ []))) (uW g u ux ++ (yW g a r ++ [])) → va_S (dm (uW g u uf ++ (yW g a r ++ []))) ss.heap H locs → ∀ (ls : Array Slot), lv_has ls 12 [(0, .ref (u 0)), (1, .int (0)), (2, .ref (a 0)), (3, .int (who)), (4, .int (cand)), (5, .int (nI L)), (6, .int (nI S)), (7, .int (moF (fun k => crk (yFact r who 1) (nI k) (nI (L % 10)) (nI (L / 10)) (yNext r)) cand n)), (8, .int (nI n)), (9, .int ((fun k => crk (yFact r who 1) (nI k) (nI (L % 10)) (nI (L / 10)) (yNext r)) n)), (10, .int (1 + cntB (fun z => decide (ux z = (fun k => crk (yFact r who 1) (nI k) (nI (L % 10)) (nI (L / 10)) (yNext r)) n)) q)), (11, .int (nI q))] → W pp l ee (rmN 5) ss mm ([.ref (u 0), .int (0), .ref (a 0), .int (who), .int (cand), .int (nI L)] : List Value).toArray bl mt cd H locs 0 0 (MQ bl (rxQi g (uW g u uf ++ (yW g a r ++ [])) (fun u9 : (Nat → Int32) => uW g u u9 ++ (yW g a r ++ [])) (moF (fun k => crk (yFact r who 1) (nI k) (nI (L % 10)) (nI (L / 10)) (yNext r)) cand 10)) ([.ref (u 0), .int (0), .ref (a 0), .int (who), .int (cand), .int (nI L)] : List Value).toArray ss 0 0 (dm (uW g u uf ++ (yW g a r ++ [])))) (F0 mm 47 ls []) := by
            intro kk
            induction kk with
            | zero => intro q hmu; exact absurd hmu (Nat.not_lt_zero _)
            | succ kk ih47 =>
              intro q hmu hq H locs hP hD hS ls hl
              refine lv_iload hx hb dX2_mostAlike_47 (lv_at hl 11 rfl) ?_
              refine lv_iload hx hb dX2_mostAlike_49 (lv_at hl 6 rfl) ?_
              refine lv_icmp_ge (tgt := 75) hx hb dX2_mostAlike_51 (by decide) (fun c3 => ?_) (fun c3 => ?_)
              · skip
                have c3' := Int32.not_lt.mpr c3
                have hq9 : S = q := by rw [nI_leI (by omega) (by omega)] at c3; omega
                subst hq9
                have hl : lv_has ls 12 [(0, .ref (u 0)), (1, .int (0)), (2, .ref (a 0)), (3, .int (who)), (4, .int (cand)), (5, .int (nI L)), (6, .int (nI S)), (7, .int (moF (fun k => crk (yFact r who 1) (nI k) (nI (L % 10)) (nI (L / 10)) (yNext r)) cand n)), (8, .int (nI n)), (9, .int ((fun k => crk (yFact r who 1) (nI k) (nI (L % 10)) (nI (L / 10)) (yNext r)) n)), (10, .int (alF (fun k => crk (yFact r who 1) (nI k) (nI (L % 10)) (nI (L / 10)) (yNext r)) cand n))] := by rw [← al_eq hinv]; exact lv_sub hl [0, 1, 2, 3, 4, 5, 6, 7, 8, 9, 10] rfl
                refine lv_iload hx hb dX2_mostAlike_75 (lv_at hl 6 rfl) ?_
                refine lv_bipush (v := 10) hx hb dX2_mostAlike_77 rfl ?_
                refine lv_icmp_ge (tgt := 94) hx hb dX2_mostAlike_79 (by decide) (fun c4 => ?_) (fun c4 => ?_)
                · skip
                  have c4' := Int32.not_lt.mpr c4
                  exact absurd c4 (show ¬ nI 10 ≤ nI S from nI_ge (by omega) (by omega))
                · skip
                  have c4' := Int32.not_le.mp c4
                  refine lv_aload_n hx hb dX2_mostAlike_82 rfl (lv_at hl 0 rfl) ?_
                  refine kget hC.1 hK (kP_app.mp hP).1 0 rfl rfl in_2 0 (by decide) (gw_in m_278 rfl) rfl dX2_mostAlike_83 ?_
                  refine lv_iload hx hb dX2_mostAlike_86 (lv_at hl 6 rfl) ?_
                  refine lv_iinc (v := nI (S + 1)) (lv' := [(6, .int (nI (S + 1))), (0, .ref (u 0)), (1, .int (0)), (2, .ref (a 0)), (3, .int (who)), (4, .int (cand)), (5, .int (nI L)), (7, .int (moF (fun k => crk (yFact r who 1) (nI k) (nI (L % 10)) (nI (L / 10)) (yNext r)) cand n)), (8, .int (nI n)), (9, .int ((fun k => crk (yFact r who 1) (nI k) (nI (L % 10)) (nI (L / 10)) (yNext r)) n)), (10, .int (alF (fun k => crk (yFact r who 1) (nI k) (nI (L % 10)) (nI (L / 10)) (yNext r)) cand n))]) hx hb dX2_mostAlike_88 hl (k := 6) rfl (inc_nI S) (by decide) rfl (fun ls hl => ?_)
                  refine lv_iload hx hb dX2_mostAlike_91 (lv_at hl 9 rfl) ?_
                  refine kast (B' := uW g u (upd ux S ((fun k => crk (yFact r who 1) (nI k) (nI (L % 10)) (nI (L / 10)) (yNext r)) n))) hC.1 hK hP hD hS 1 rfl (vp_in_nI (by omega) (by omega)) (fun _ h => by rw [cl_nI (by omega)] at h; exact h) uW_adr dX2_mostAlike_93 (fun H locs hP hD hS => ?_)
                  refine lv_iload hx hb dX2_mostAlike_94 (lv_at hl 7 rfl) ?_
                  refine lv_iload hx hb dX2_mostAlike_96 (lv_at hl 10 rfl) ?_
                  refine va_mmax hx hb (hml.trans hl.1.symm) hown (hts _ (gw_in m_795 rfl)) (hts _ (gw_in m_528 rfl)) (hts _ (gw_in m_67 rfl)) (hts _ (gw_in m_529 rfl)) (Nat.le_of_ble_eq_true rfl) (Nat.le_of_ble_eq_true rfl) (Nat.le_of_ble_eq_true rfl) (Nat.le_of_ble_eq_true rfl) dX2_mostAlike_98 ?_
                  refine lv_istore (lv' := [(7, .int (if moF (fun k => crk (yFact r who 1) (nI k) (nI (L % 10)) (nI (L / 10)) (yNext r)) cand n < alF (fun k => crk (yFact r who 1) (nI k) (nI (L % 10)) (nI (L / 10)) (yNext r)) cand n then alF (fun k => crk (yFact r who 1) (nI k) (nI (L % 10)) (nI (L / 10)) (yNext r)) cand n else moF (fun k => crk (yFact r who 1) (nI k) (nI (L % 10)) (nI (L / 10)) (yNext r)) cand n)), (6, .int (nI (S + 1))), (0, .ref (u 0)), (1, .int (0)), (2, .ref (a 0)), (3, .int (who)), (4, .int (cand)), (5, .int (nI L)), (8, .int (nI n)), (9, .int ((fun k => crk (yFact r who 1) (nI k) (nI (L % 10)) (nI (L / 10)) (yNext r)) n)), (10, .int (alF (fun k => crk (yFact r who 1) (nI k) (nI (L % 10)) (nI (L / 10)) (yNext r)) cand n))]) hx hb dX2_mostAlike_101 hl (by decide) rfl (fun ls hl => ?_)
                  refine lv_iinc (v := nI (n + 1)) (lv' := [(8, .int (nI (n + 1))), (7, .int (if moF (fun k => crk (yFact r who 1) (nI k) (nI (L % 10)) (nI (L / 10)) (yNext r)) cand n < alF (fun k => crk (yFact r who 1) (nI k) (nI (L % 10)) (nI (L / 10)) (yNext r)) cand n then alF (fun k => crk (yFact r who 1) (nI k) (nI (L % 10)) (nI (L / 10)) (yNext r)) cand n else moF (fun k => crk (yFact r who 1) (nI k) (nI (L % 10)) (nI (L / 10)) (yNext r)) cand n)), (6, .int (nI (S + 1))), (0, .ref (u 0)), (1, .int (0)), (2, .ref (a 0)), (3, .int (who)), (4, .int (cand)), (5, .int (nI L)), (9, .int ((fun k => crk (yFact r who 1) (nI k) (nI (L % 10)) (nI (L / 10)) (yNext r)) n)), (10, .int (alF (fun k => crk (yFact r who 1) (nI k) (nI (L % 10)) (nI (L / 10)) (yNext r)) cand n))]) hx hb dX2_mostAlike_103 hl (k := 8) rfl (inc_nI n) (by decide) rfl (fun ls hl => ?_)
                  refine lv_goto (tgt := 9) hx hb dX2_mostAlike_106 (by decide) ?_
                  have e9 : moF (fun k => crk (yFact r who 1) (nI k) (nI (L % 10)) (nI (L / 10)) (yNext r)) cand (n + 1) = if moF (fun k => crk (yFact r who 1) (nI k) (nI (L % 10)) (nI (L / 10)) (yNext r)) cand n < alF (fun k => crk (yFact r who 1) (nI k) (nI (L % 10)) (nI (L / 10)) (yNext r)) cand n then alF (fun k => crk (yFact r who 1) (nI k) (nI (L % 10)) (nI (L / 10)) (yNext r)) cand n else moF (fun k => crk (yFact r who 1) (nI k) (nI (L % 10)) (nI (L / 10)) (yNext r)) cand n := moF_t c2
                  have hl : lv_has ls 12 [(8, .int (nI (n + 1))), (7, .int (moF (fun k => crk (yFact r who 1) (nI k) (nI (L % 10)) (nI (L / 10)) (yNext r)) cand (n + 1))), (6, .int (nI (S + 1))), (0, .ref (u 0)), (1, .int (0)), (2, .ref (a 0)), (3, .int (who)), (4, .int (cand)), (5, .int (nI L)), (9, .int ((fun k => crk (yFact r who 1) (nI k) (nI (L % 10)) (nI (L / 10)) (yNext r)) n)), (10, .int (alF (fun k => crk (yFact r who 1) (nI k) (nI (L % 10)) (nI (L / 10)) (yNext r)) cand n))] := by rw [e9]; exact hl
                  exact ih9 (n + 1) (S + 1) (upd ux S ((fun k => crk (yFact r who 1) (nI k) (nI (L % 10)) (nI (L / 10)) (yNext r)) n)) (by omega) (by omega) (by omega) (inv_t hinv c2) _ _ hP hD hS _ (lv_sub hl [3, 4, 5, 6, 7, 8, 2, 1, 0] rfl)
              · skip
                have c3' := Int32.not_le.mp c3
                have hq9 : q < S := by rw [nI_leI (by omega) (by omega)] at c3; omega
                refine lv_aload_n hx hb dX2_mostAlike_54 rfl (lv_at hl 0 rfl) ?_
                refine kget hC.1 hK (kP_app.mp hP).1 0 rfl rfl in_2 0 (by decide) (gw_in m_278 rfl) rfl dX2_mostAlike_55 ?_
                refine lv_iload hx hb dX2_mostAlike_58 (lv_at hl 11 rfl) ?_
                refine kald (v := ux q) hC.1 hK (kP_app.mp hP).1 1 rfl (vp_in_nI (by omega) (by omega)) (by rw [cl_nI (by omega)]) dX2_mostAlike_60 ?_
                refine lv_iload hx hb dX2_mostAlike_61 (lv_at hl 9 rfl) ?_
                refine lv_icmp_ne (tgt := 69) hx hb dX2_mostAlike_63 (by decide) (fun c5 => ?_) (fun c5 => ?_)
                · skip
                  refine lv_iinc (v := nI (q + 1)) (lv' := [(11, .int (nI (q + 1))), (0, .ref (u 0)), (1, .int (0)), (2, .ref (a 0)), (3, .int (who)), (4, .int (cand)), (5, .int (nI L)), (6, .int (nI S)), (7, .int (moF (fun k => crk (yFact r who 1) (nI k) (nI (L % 10)) (nI (L / 10)) (yNext r)) cand n)), (8, .int (nI n)), (9, .int ((fun k => crk (yFact r who 1) (nI k) (nI (L % 10)) (nI (L / 10)) (yNext r)) n)), (10, .int (1 + cntB (fun z => decide (ux z = (fun k => crk (yFact r who 1) (nI k) (nI (L % 10)) (nI (L / 10)) (yNext r)) n)) q))]) hx hb dX2_mostAlike_69 hl (k := 11) rfl (inc_nI q) (by decide) rfl (fun ls hl => ?_)
                  refine lv_goto (tgt := 47) hx hb dX2_mostAlike_72 (by decide) ?_
                  rw [cntB_f (p := fun z => decide (ux z = (fun k => crk (yFact r who 1) (nI k) (nI (L % 10)) (nI (L / 10)) (yNext r)) n)) (by simpa using c5)] at hl
                  exact ih47 (q + 1) (by omega) (by omega) _ _ hP hD hS _ (lv_sub hl [1, 2, 3, 4, 5, 6, 7, 8, 9, 10, 11, 0] rfl)
                · skip
                  refine lv_iinc (v := (1 + cntB (fun z => decide (ux z = (fun k => crk (yFact r who 1) (nI k) (nI (L % 10)) (nI (L / 10)) (yNext r)) n)) q) + 1) (lv' := [(10, .int ((1 + cntB (fun z => decide (ux z = (fun k => crk (yFact r who 1) (nI k) (nI (L % 10)) (nI (L / 10)) (yNext r)) n)) q) + 1)), (0, .ref (u 0)), (1, .int (0)), (2, .ref (a 0)), (3, .int (who)), (4, .int (cand)), (5, .int (nI L)), (6, .int (nI S)), (7, .int (moF (fun k => crk (yFact r who 1) (nI k) (nI (L % 10)) (nI (L / 10)) (yNext r)) cand n)), (8, .int (nI n)), (9, .int ((fun k => crk (yFact r who 1) (nI k) (nI (L % 10)) (nI (L / 10)) (yNext r)) n)), (11, .int (nI q))]) hx hb dX2_mostAlike_66 hl (k := 10) rfl rfl (by decide) rfl (fun ls hl => ?_)
                  refine lv_iinc (v := nI (q + 1)) (lv' := [(11, .int (nI (q + 1))), (10, .int ((1 + cntB (fun z => decide (ux z = (fun k => crk (yFact r who 1) (nI k) (nI (L % 10)) (nI (L / 10)) (yNext r)) n)) q) + 1)), (0, .ref (u 0)), (1, .int (0)), (2, .ref (a 0)), (3, .int (who)), (4, .int (cand)), (5, .int (nI L)), (6, .int (nI S)), (7, .int (moF (fun k => crk (yFact r who 1) (nI k) (nI (L % 10)) (nI (L / 10)) (yNext r)) cand n)), (8, .int (nI n)), (9, .int ((fun k => crk (yFact r who 1) (nI k) (nI (L % 10)) (nI (L / 10)) (yNext r)) n))]) hx hb dX2_mostAlike_69 hl (k := 11) rfl (inc_nI q) (by decide) rfl (fun ls hl => ?_)
                  refine lv_goto (tgt := 47) hx hb dX2_mostAlike_72 (by decide) ?_
                  rw [Int32.add_assoc, cntB_t (p := fun z => decide (ux z = (fun k => crk (yFact r who 1) (nI k) (nI (L % 10)) (nI (L / 10)) (yNext r)) n)) (by simpa using c5)] at hl
                  exact ih47 (q + 1) (by omega) (by omega) _ _ hP hD hS _ (lv_sub hl [2, 3, 4, 5, 6, 7, 8, 9, 10, 11, 1, 0] rfl)
          exact cut47 _ 0 (Nat.lt_succ_self _) (by omega) _ _ hP hD hS _ (lv_sub hl [3, 4, 5, 6, 7, 8, 9, 10, 11, 2, 1, 0] rfl)
        · skip
          have c2 := b2i_0 c2
          refine lv_goto (tgt := 103) hx hb dX2_mostAlike_26 (by decide) ?_
          refine lv_iinc (v := nI (n + 1)) (lv' := [(8, .int (nI (n + 1))), (0, .ref (u 0)), (1, .int (0)), (2, .ref (a 0)), (3, .int (who)), (4, .int (cand)), (5, .int (nI L)), (6, .int (nI S)), (7, .int (moF (fun k => crk (yFact r who 1) (nI k) (nI (L % 10)) (nI (L / 10)) (yNext r)) cand n))]) hx hb dX2_mostAlike_103 hl (k := 8) rfl (inc_nI n) (by decide) rfl (fun ls hl => ?_)
          refine lv_goto (tgt := 9) hx hb dX2_mostAlike_106 (by decide) ?_
          have e9 : moF (fun k => crk (yFact r who 1) (nI k) (nI (L % 10)) (nI (L / 10)) (yNext r)) cand (n + 1) = moF (fun k => crk (yFact r who 1) (nI k) (nI (L % 10)) (nI (L / 10)) (yNext r)) cand n := moF_f c2
          have hl : lv_has ls 12 [(8, .int (nI (n + 1))), (0, .ref (u 0)), (1, .int (0)), (2, .ref (a 0)), (3, .int (who)), (4, .int (cand)), (5, .int (nI L)), (6, .int (nI S)), (7, .int (moF (fun k => crk (yFact r who 1) (nI k) (nI (L % 10)) (nI (L / 10)) (yNext r)) cand (n + 1)))] := by rw [e9]; exact hl
          exact ih9 (n + 1) S ux (by omega) (by omega) (by omega) (inv_f hinv c2) _ _ hP hD hS _ (lv_sub hl [1, 2, 3, 4, 5, 6, 7, 8, 0] rfl)
  exact cut9 _ 0 0 uf (Nat.lt_succ_self _) (by omega) (by omega) (fun v => rfl) _ _ hP hD hS _ (lv_sub hl [3, 4, 5, 6, 7, 8, 2, 1, 0] rfl)
set_option maxHeartbeats 4000000 in
set_option maxRecDepth 100000 in
theorem kX2_mostAlike_1 (l : Launch) (g : gG) (u : Nat → Nat) (uf : Nat → Int32) (a : Nat → Nat) (r : Nat → Int32) (who cand : Int32) (L : Nat) (hw : Wf r) (hL : L < 210) (hn0 : yNut r who = true) : Met l yX2_mostAlike (.code yX2_mostAlike cX2_mostAlike 12 (some .int) :: gw) (rmN 5) (va_Pc [.ref (u 0), .int (1), .ref (a 0), .int (who), .int (cand), .int (nI L)] (rwPre g (uW g u uf ++ (yW g a r ++ [])))) (rxQi g (uW g u uf ++ (yW g a r ++ [])) (fun u9 : (Nat → Int32) => uW g u u9 ++ (yW g a r ++ [])) (moF (fun k => crk (nI k) (yFact r who 2) (nI (L % 10)) (nI (L / 10)) (yNext r)) cand 10)) 0 0 (dm (uW g u uf ++ (yW g a r ++ []))) := by
  refine met_start (by decide) (Nat.le_of_ble_eq_true rfl) ?_
  intro pp ee ss mm bl mt cd hC hpre ls hl
  obtain ⟨⟨hx, hb, hml, hown, hts⟩, hr, hlk, hnm⟩ := id hC
  have hl : lv_has ls 12 [(0, .ref (u 0)), (1, .int (1)), (2, .ref (a 0)), (3, .int (who)), (4, .int (cand)), (5, .int (nI L))] := hl
  obtain ⟨hP, hK, hD⟩ := hpre
  have hS : va_S (dm (uW g u uf ++ (yW g a r ++ []))) ss.heap ss.heap [] := va_S.rf
  have hD := vD_self hD
  refine lv_iconst (v := 0) hx hb dX2_mostAlike_0 rfl ?_
  refine lv_istore (lv' := [(6, .int (0)), (0, .ref (u 0)), (1, .int (1)), (2, .ref (a 0)), (3, .int (who)), (4, .int (cand)), (5, .int (nI L))]) hx hb dX2_mostAlike_1 hl (by decide) rfl (fun ls hl => ?_)
  refine lv_iconst (v := 0) hx hb dX2_mostAlike_3 rfl ?_
  refine lv_istore (lv' := [(7, .int (0)), (6, .int (0)), (0, .ref (u 0)), (1, .int (1)), (2, .ref (a 0)), (3, .int (who)), (4, .int (cand)), (5, .int (nI L))]) hx hb dX2_mostAlike_4 hl (by decide) rfl (fun ls hl => ?_)
  refine lv_iconst (v := 0) hx hb dX2_mostAlike_6 rfl ?_
  refine lv_istore (lv' := [(8, .int (0)), (7, .int (0)), (6, .int (0)), (0, .ref (u 0)), (1, .int (1)), (2, .ref (a 0)), (3, .int (who)), (4, .int (cand)), (5, .int (nI L))]) hx hb dX2_mostAlike_7 hl (by decide) rfl (fun ls hl => ?_)
  have cut9 : ∀ kk : Nat, ∀ (n S : Nat) (ux : Nat → Int32), 11 - n < kk → (hn : n ≤ 10) → (hSn : S ≤ n) → (hinv : ∀ v, cntB (fun z => decide (ux z = v)) S = cntB (fun j => hasB cand (nI j) && decide ((fun k => crk (nI k) (yFact r who 2) (nI (L % 10)) (nI (L / 10)) (yNext r)) j = v)) n) → ∀ (H : Heap) (locs : List Loc), kP g (uW g u ux ++ (yW g a r ++ [])) H → va_D (dm (uW g u uf ++ (yW g a r ++ []))) (uW g u ux ++ (yW g a r ++ [])) → va_S (dm (uW g u uf ++ (yW g a r ++ []))) ss.heap H locs → ∀ (ls : Array Slot), lv_has ls 12 [(0, .ref (u 0)), (1, .int (1)), (2, .ref (a 0)), (3, .int (who)), (4, .int (cand)), (5, .int (nI L)), (6, .int (nI S)), (7, .int (moF (fun k => crk (nI k) (yFact r who 2) (nI (L % 10)) (nI (L / 10)) (yNext r)) cand n)), (8, .int (nI n))] → W pp l ee (rmN 5) ss mm ([.ref (u 0), .int (1), .ref (a 0), .int (who), .int (cand), .int (nI L)] : List Value).toArray bl mt cd H locs 0 0 (MQ bl (rxQi g (uW g u uf ++ (yW g a r ++ [])) (fun u9 : (Nat → Int32) => uW g u u9 ++ (yW g a r ++ [])) (moF (fun k => crk (nI k) (yFact r who 2) (nI (L % 10)) (nI (L / 10)) (yNext r)) cand 10)) ([.ref (u 0), .int (1), .ref (a 0), .int (who), .int (cand), .int (nI L)] : List Value).toArray ss 0 0 (dm (uW g u uf ++ (yW g a r ++ [])))) (F0 mm 9 ls []) := by
    intro kk
    induction kk with
    | zero => intro n S ux hmu; exact absurd hmu (Nat.not_lt_zero _)
    | succ kk ih9 =>
      intro n S ux hmu hn hSn hinv H locs hP hD hS ls hl
      refine lv_iload hx hb dX2_mostAlike_9 (lv_at hl 8 rfl) ?_
      refine lv_bipush (v := 10) hx hb dX2_mostAlike_11 rfl ?_
      refine lv_icmp_ge (tgt := 109) hx hb dX2_mostAlike_13 (by decide) (fun c1 => ?_) (fun c1 => ?_)
      · skip
        have c1' := Int32.not_lt.mpr c1
        have hn9 : n = 10 := by have := lp_ge (by omega) c1; rw [show (10 : Int32).toInt = 10 from rfl] at this; omega
        subst hn9
        refine lv_iload hx hb dX2_mostAlike_109 (lv_at hl 7 rfl) ?_
        exact ret_rxi (S := (Nat → Int32)) ux hx hb hr hlk (by rfl) (hP) hS dX2_mostAlike_111
      · skip
        have c1' := Int32.not_le.mp c1
        have hn9 : n < 10 := by have := lp_lt (by omega) c1; rw [show (10 : Int32).toInt = 10 from rfl] at this; omega
        refine lv_iload hx hb dX2_mostAlike_16 (lv_at hl 4 rfl) ?_
        refine lv_iload hx hb dX2_mostAlike_18 (lv_at hl 8 rfl) ?_
        refine ro_i (run_SN (As := [.int (cand), .int (nI n)]) (rest := []) hC.1 ckX8_has (kX8_has l cand (nI n)) (hK.2.2 _ _ _ _ m_789) (fb_nil _) (fun _ _ _ => trivial) ⟨rfl, rfl, Nat.le_of_ble_eq_true rfl, Nat.le_of_ble_eq_true rfl⟩ rfl hl.1 rfl (Nat.le_of_ble_eq_true rfl) dX2_mostAlike_20 ⟨Nat.le_of_ble_eq_true rfl, Nat.le_of_ble_eq_true rfl⟩) ?_
        refine lv_if_ne (tgt := 29) hx hb dX2_mostAlike_23 (by decide) (fun c2 => ?_) (fun c2 => ?_)
        · skip
          have c2 := b2i_1 c2
          refine lv_iload_n hx hb dX2_mostAlike_29 rfl (lv_at hl 1 rfl) ?_
          refine lv_aload_n hx hb dX2_mostAlike_30 rfl (lv_at hl 2 rfl) ?_
          refine lv_iload_n hx hb dX2_mostAlike_31 rfl (lv_at hl 3 rfl) ?_
          refine lv_iload hx hb dX2_mostAlike_32 (lv_at hl 8 rfl) ?_
          refine lv_iload hx hb dX2_mostAlike_34 (lv_at hl 5 rfl) ?_
          refine ro_i (run_S (As := [.int (1), .ref (a 0), .int (who), .int (nI n), .int (nI L)]) (rest := []) hC.1 ckX2_answerOf (kX2_answerOf_1 l g a r who (nI n) L hw hL hn0) (gw_in m_790 rfl) (fb_ro _ _ _) (fun U hU hW => ⟨by rw [hU]; exact (kP_app.mp (kP_app.mp hP).2).1, kK_warm hW hK⟩) ⟨rfl, rfl, Nat.le_of_ble_eq_true rfl, Nat.le_of_ble_eq_true rfl⟩ rfl hl.1 rfl (Nat.le_of_ble_eq_true rfl) dX2_mostAlike_36 ⟨Nat.le_of_ble_eq_true rfl, Nat.le_of_ble_eq_true rfl⟩) ?_
          refine top_i (x := crk (nI n) (yFact r who 2) (nI (L % 10)) (nI (L / 10)) (yNext r)) (y := (fun k => crk (nI k) (yFact r who 2) (nI (L % 10)) (nI (L / 10)) (yNext r)) n) rfl ?_
          refine lv_istore (lv' := [(9, .int ((fun k => crk (nI k) (yFact r who 2) (nI (L % 10)) (nI (L / 10)) (yNext r)) n)), (0, .ref (u 0)), (1, .int (1)), (2, .ref (a 0)), (3, .int (who)), (4, .int (cand)), (5, .int (nI L)), (6, .int (nI S)), (7, .int (moF (fun k => crk (nI k) (yFact r who 2) (nI (L % 10)) (nI (L / 10)) (yNext r)) cand n)), (8, .int (nI n))]) hx hb dX2_mostAlike_39 hl (by decide) rfl (fun ls hl => ?_)
          refine lv_iconst (v := 1) hx hb dX2_mostAlike_41 rfl ?_
          refine lv_istore (lv' := [(10, .int (1)), (9, .int ((fun k => crk (nI k) (yFact r who 2) (nI (L % 10)) (nI (L / 10)) (yNext r)) n)), (0, .ref (u 0)), (1, .int (1)), (2, .ref (a 0)), (3, .int (who)), (4, .int (cand)), (5, .int (nI L)), (6, .int (nI S)), (7, .int (moF (fun k => crk (nI k) (yFact r who 2) (nI (L % 10)) (nI (L / 10)) (yNext r)) cand n)), (8, .int (nI n))]) hx hb dX2_mostAlike_42 hl (by decide) rfl (fun ls hl => ?_)
          refine lv_iconst (v := 0) hx hb dX2_mostAlike_44 rfl ?_
          refine lv_istore (lv' := [(11, .int (0)), (10, .int (1)), (9, .int ((fun k => crk (nI k) (yFact r who 2) (nI (L % 10)) (nI (L / 10)) (yNext r)) n)), (0, .ref (u 0)), (1, .int (1)), (2, .ref (a 0)), (3, .int (who)), (4, .int (cand)), (5, .int (nI L)), (6, .int (nI S)), (7, .int (moF (fun k => crk (nI k) (yFact r who 2) (nI (L % 10)) (nI (L / 10)) (yNext r)) cand n)), (8, .int (nI n))]) hx hb dX2_mostAlike_45 hl (by decide) rfl (fun ls hl => ?_)
          have cut47 : ∀ kk : Nat, ∀ (q : Nat), 11 - q < kk → (hq : q ≤ S) → ∀ (H : Heap) (locs : List Loc), kP g (uW g u ux ++ (yW g a r ++ [])) H → va_D (dm (uW g u uf ++ (yW g a r ++ []))) (uW g u ux ++ (yW g a r ++ [])) → va_S (dm (uW g u uf ++ (yW g a r ++ []))) ss.heap H locs → ∀ (ls : Array Slot), lv_has ls 12 [(0, .ref (u 0)), (1, .int (1)), (2, .ref (a 0)), (3, .int (who)), (4, .int (cand)), (5, .int (nI L)), (6, .int (nI S)), (7, .int (moF (fun k => crk (nI k) (yFact r who 2) (nI (L % 10)) (nI (L / 10)) (yNext r)) cand n)), (8, .int (nI n)), (9, .int ((fun k => crk (nI k) (yFact r who 2) (nI (L % 10)) (nI (L / 10)) (yNext r)) n)), (10, .int (1 + cntB (fun z => decide (ux z = (fun k => crk (nI k) (yFact r who 2) (nI (L % 10)) (nI (L / 10)) (yNext r)) n)) q)), (11, .int (nI q))] → W pp l ee (rmN 5) ss mm ([.ref (u 0), .int (1), .ref (a 0), .int (who), .int (cand), .int (nI L)] : List Value).toArray bl mt cd H locs 0 0 (MQ bl (rxQi g (uW g u uf ++ (yW g a r ++ [])) (fun u9 : (Nat → Int32) => uW g u u9 ++ (yW g a r ++ [])) (moF (fun k => crk (nI k) (yFact r who 2) (nI (L % 10)) (nI (L / 10)) (yNext r)) cand 10)) ([.ref (u 0), .int (1), .ref (a 0), .int (who), .int (cand), .int (nI L)] : List Value).toArray ss 0 0 (dm (uW g u uf ++ (yW g a r ++ [])))) (F0 mm 47 ls []) := by
            intro kk
            induction kk with
            | zero => intro q hmu; exact absurd hmu (Nat.not_lt_zero _)
            | succ kk ih47 =>
              intro q hmu hq H locs hP hD hS ls hl
              refine lv_iload hx hb dX2_mostAlike_47 (lv_at hl 11 rfl) ?_
              refine lv_iload hx hb dX2_mostAlike_49 (lv_at hl 6 rfl) ?_
              refine lv_icmp_ge (tgt := 75) hx hb dX2_mostAlike_51 (by decide) (fun c3 => ?_) (fun c3 => ?_)
              · skip
                have c3' := Int32.not_lt.mpr c3
                have hq9 : S = q := by rw [nI_leI (by omega) (by omega)] at c3; omega
                subst hq9
                have hl : lv_has ls 12 [(0, .ref (u 0)), (1, .int (1)), (2, .ref (a 0)), (3, .int (who)), (4, .int (cand)), (5, .int (nI L)), (6, .int (nI S)), (7, .int (moF (fun k => crk (nI k) (yFact r who 2) (nI (L % 10)) (nI (L / 10)) (yNext r)) cand n)), (8, .int (nI n)), (9, .int ((fun k => crk (nI k) (yFact r who 2) (nI (L % 10)) (nI (L / 10)) (yNext r)) n)), (10, .int (alF (fun k => crk (nI k) (yFact r who 2) (nI (L % 10)) (nI (L / 10)) (yNext r)) cand n))] := by rw [← al_eq hinv]; exact lv_sub hl [0, 1, 2, 3, 4, 5, 6, 7, 8, 9, 10] rfl
                refine lv_iload hx hb dX2_mostAlike_75 (lv_at hl 6 rfl) ?_
                refine lv_bipush (v := 10) hx hb dX2_mostAlike_77 rfl ?_
                refine lv_icmp_ge (tgt := 94) hx hb dX2_mostAlike_79 (by decide) (fun c4 => ?_) (fun c4 => ?_)
                · skip
                  have c4' := Int32.not_lt.mpr c4
                  exact absurd c4 (show ¬ nI 10 ≤ nI S from nI_ge (by omega) (by omega))
                · skip
                  have c4' := Int32.not_le.mp c4
                  refine lv_aload_n hx hb dX2_mostAlike_82 rfl (lv_at hl 0 rfl) ?_
                  refine kget hC.1 hK (kP_app.mp hP).1 0 rfl rfl in_2 0 (by decide) (gw_in m_278 rfl) rfl dX2_mostAlike_83 ?_
                  refine lv_iload hx hb dX2_mostAlike_86 (lv_at hl 6 rfl) ?_
                  refine lv_iinc (v := nI (S + 1)) (lv' := [(6, .int (nI (S + 1))), (0, .ref (u 0)), (1, .int (1)), (2, .ref (a 0)), (3, .int (who)), (4, .int (cand)), (5, .int (nI L)), (7, .int (moF (fun k => crk (nI k) (yFact r who 2) (nI (L % 10)) (nI (L / 10)) (yNext r)) cand n)), (8, .int (nI n)), (9, .int ((fun k => crk (nI k) (yFact r who 2) (nI (L % 10)) (nI (L / 10)) (yNext r)) n)), (10, .int (alF (fun k => crk (nI k) (yFact r who 2) (nI (L % 10)) (nI (L / 10)) (yNext r)) cand n))]) hx hb dX2_mostAlike_88 hl (k := 6) rfl (inc_nI S) (by decide) rfl (fun ls hl => ?_)
                  refine lv_iload hx hb dX2_mostAlike_91 (lv_at hl 9 rfl) ?_
                  refine kast (B' := uW g u (upd ux S ((fun k => crk (nI k) (yFact r who 2) (nI (L % 10)) (nI (L / 10)) (yNext r)) n))) hC.1 hK hP hD hS 1 rfl (vp_in_nI (by omega) (by omega)) (fun _ h => by rw [cl_nI (by omega)] at h; exact h) uW_adr dX2_mostAlike_93 (fun H locs hP hD hS => ?_)
                  refine lv_iload hx hb dX2_mostAlike_94 (lv_at hl 7 rfl) ?_
                  refine lv_iload hx hb dX2_mostAlike_96 (lv_at hl 10 rfl) ?_
                  refine va_mmax hx hb (hml.trans hl.1.symm) hown (hts _ (gw_in m_795 rfl)) (hts _ (gw_in m_528 rfl)) (hts _ (gw_in m_67 rfl)) (hts _ (gw_in m_529 rfl)) (Nat.le_of_ble_eq_true rfl) (Nat.le_of_ble_eq_true rfl) (Nat.le_of_ble_eq_true rfl) (Nat.le_of_ble_eq_true rfl) dX2_mostAlike_98 ?_
                  refine lv_istore (lv' := [(7, .int (if moF (fun k => crk (nI k) (yFact r who 2) (nI (L % 10)) (nI (L / 10)) (yNext r)) cand n < alF (fun k => crk (nI k) (yFact r who 2) (nI (L % 10)) (nI (L / 10)) (yNext r)) cand n then alF (fun k => crk (nI k) (yFact r who 2) (nI (L % 10)) (nI (L / 10)) (yNext r)) cand n else moF (fun k => crk (nI k) (yFact r who 2) (nI (L % 10)) (nI (L / 10)) (yNext r)) cand n)), (6, .int (nI (S + 1))), (0, .ref (u 0)), (1, .int (1)), (2, .ref (a 0)), (3, .int (who)), (4, .int (cand)), (5, .int (nI L)), (8, .int (nI n)), (9, .int ((fun k => crk (nI k) (yFact r who 2) (nI (L % 10)) (nI (L / 10)) (yNext r)) n)), (10, .int (alF (fun k => crk (nI k) (yFact r who 2) (nI (L % 10)) (nI (L / 10)) (yNext r)) cand n))]) hx hb dX2_mostAlike_101 hl (by decide) rfl (fun ls hl => ?_)
                  refine lv_iinc (v := nI (n + 1)) (lv' := [(8, .int (nI (n + 1))), (7, .int (if moF (fun k => crk (nI k) (yFact r who 2) (nI (L % 10)) (nI (L / 10)) (yNext r)) cand n < alF (fun k => crk (nI k) (yFact r who 2) (nI (L % 10)) (nI (L / 10)) (yNext r)) cand n then alF (fun k => crk (nI k) (yFact r who 2) (nI (L % 10)) (nI (L / 10)) (yNext r)) cand n else moF (fun k => crk (nI k) (yFact r who 2) (nI (L % 10)) (nI (L / 10)) (yNext r)) cand n)), (6, .int (nI (S + 1))), (0, .ref (u 0)), (1, .int (1)), (2, .ref (a 0)), (3, .int (who)), (4, .int (cand)), (5, .int (nI L)), (9, .int ((fun k => crk (nI k) (yFact r who 2) (nI (L % 10)) (nI (L / 10)) (yNext r)) n)), (10, .int (alF (fun k => crk (nI k) (yFact r who 2) (nI (L % 10)) (nI (L / 10)) (yNext r)) cand n))]) hx hb dX2_mostAlike_103 hl (k := 8) rfl (inc_nI n) (by decide) rfl (fun ls hl => ?_)
                  refine lv_goto (tgt := 9) hx hb dX2_mostAlike_106 (by decide) ?_
                  have e9 : moF (fun k => crk (nI k) (yFact r who 2) (nI (L % 10)) (nI (L / 10)) (yNext r)) cand (n + 1) = if moF (fun k => crk (nI k) (yFact r who 2) (nI (L % 10)) (nI (L / 10)) (yNext r)) cand n < alF (fun k => crk (nI k) (yFact r who 2) (nI (L % 10)) (nI (L / 10)) (yNext r)) cand n then alF (fun k => crk (nI k) (yFact r who 2) (nI (L % 10)) (nI (L / 10)) (yNext r)) cand n else moF (fun k => crk (nI k) (yFact r who 2) (nI (L % 10)) (nI (L / 10)) (yNext r)) cand n := moF_t c2
                  have hl : lv_has ls 12 [(8, .int (nI (n + 1))), (7, .int (moF (fun k => crk (nI k) (yFact r who 2) (nI (L % 10)) (nI (L / 10)) (yNext r)) cand (n + 1))), (6, .int (nI (S + 1))), (0, .ref (u 0)), (1, .int (1)), (2, .ref (a 0)), (3, .int (who)), (4, .int (cand)), (5, .int (nI L)), (9, .int ((fun k => crk (nI k) (yFact r who 2) (nI (L % 10)) (nI (L / 10)) (yNext r)) n)), (10, .int (alF (fun k => crk (nI k) (yFact r who 2) (nI (L % 10)) (nI (L / 10)) (yNext r)) cand n))] := by rw [e9]; exact hl
                  exact ih9 (n + 1) (S + 1) (upd ux S ((fun k => crk (nI k) (yFact r who 2) (nI (L % 10)) (nI (L / 10)) (yNext r)) n)) (by omega) (by omega) (by omega) (inv_t hinv c2) _ _ hP hD hS _ (lv_sub hl [3, 4, 5, 6, 7, 8, 2, 1, 0] rfl)
              · skip
                have c3' := Int32.not_le.mp c3
                have hq9 : q < S := by rw [nI_leI (by omega) (by omega)] at c3; omega
                refine lv_aload_n hx hb dX2_mostAlike_54 rfl (lv_at hl 0 rfl) ?_
                refine kget hC.1 hK (kP_app.mp hP).1 0 rfl rfl in_2 0 (by decide) (gw_in m_278 rfl) rfl dX2_mostAlike_55 ?_
                refine lv_iload hx hb dX2_mostAlike_58 (lv_at hl 11 rfl) ?_
                refine kald (v := ux q) hC.1 hK (kP_app.mp hP).1 1 rfl (vp_in_nI (by omega) (by omega)) (by rw [cl_nI (by omega)]) dX2_mostAlike_60 ?_
                refine lv_iload hx hb dX2_mostAlike_61 (lv_at hl 9 rfl) ?_
                refine lv_icmp_ne (tgt := 69) hx hb dX2_mostAlike_63 (by decide) (fun c5 => ?_) (fun c5 => ?_)
                · skip
                  refine lv_iinc (v := nI (q + 1)) (lv' := [(11, .int (nI (q + 1))), (0, .ref (u 0)), (1, .int (1)), (2, .ref (a 0)), (3, .int (who)), (4, .int (cand)), (5, .int (nI L)), (6, .int (nI S)), (7, .int (moF (fun k => crk (nI k) (yFact r who 2) (nI (L % 10)) (nI (L / 10)) (yNext r)) cand n)), (8, .int (nI n)), (9, .int ((fun k => crk (nI k) (yFact r who 2) (nI (L % 10)) (nI (L / 10)) (yNext r)) n)), (10, .int (1 + cntB (fun z => decide (ux z = (fun k => crk (nI k) (yFact r who 2) (nI (L % 10)) (nI (L / 10)) (yNext r)) n)) q))]) hx hb dX2_mostAlike_69 hl (k := 11) rfl (inc_nI q) (by decide) rfl (fun ls hl => ?_)
                  refine lv_goto (tgt := 47) hx hb dX2_mostAlike_72 (by decide) ?_
                  rw [cntB_f (p := fun z => decide (ux z = (fun k => crk (nI k) (yFact r who 2) (nI (L % 10)) (nI (L / 10)) (yNext r)) n)) (by simpa using c5)] at hl
                  exact ih47 (q + 1) (by omega) (by omega) _ _ hP hD hS _ (lv_sub hl [1, 2, 3, 4, 5, 6, 7, 8, 9, 10, 11, 0] rfl)
                · skip
                  refine lv_iinc (v := (1 + cntB (fun z => decide (ux z = (fun k => crk (nI k) (yFact r who 2) (nI (L % 10)) (nI (L / 10)) (yNext r)) n)) q) + 1) (lv' := [(10, .int ((1 + cntB (fun z => decide (ux z = (fun k => crk (nI k) (yFact r who 2) (nI (L % 10)) (nI (L / 10)) (yNext r)) n)) q) + 1)), (0, .ref (u 0)), (1, .int (1)), (2, .ref (a 0)), (3, .int (who)), (4, .int (cand)), (5, .int (nI L)), (6, .int (nI S)), (7, .int (moF (fun k => crk (nI k) (yFact r who 2) (nI (L % 10)) (nI (L / 10)) (yNext r)) cand n)), (8, .int (nI n)), (9, .int ((fun k => crk (nI k) (yFact r who 2) (nI (L % 10)) (nI (L / 10)) (yNext r)) n)), (11, .int (nI q))]) hx hb dX2_mostAlike_66 hl (k := 10) rfl rfl (by decide) rfl (fun ls hl => ?_)
                  refine lv_iinc (v := nI (q + 1)) (lv' := [(11, .int (nI (q + 1))), (10, .int ((1 + cntB (fun z => decide (ux z = (fun k => crk (nI k) (yFact r who 2) (nI (L % 10)) (nI (L / 10)) (yNext r)) n)) q) + 1)), (0, .ref (u 0)), (1, .int (1)), (2, .ref (a 0)), (3, .int (who)), (4, .int (cand)), (5, .int (nI L)), (6, .int (nI S)), (7, .int (moF (fun k => crk (nI k) (yFact r who 2) (nI (L % 10)) (nI (L / 10)) (yNext r)) cand n)), (8, .int (nI n)), (9, .int ((fun k => crk (nI k) (yFact r who 2) (nI (L % 10)) (nI (L / 10)) (yNext r)) n))]) hx hb dX2_mostAlike_69 hl (k := 11) rfl (inc_nI q) (by decide) rfl (fun ls hl => ?_)
                  refine lv_goto (tgt := 47) hx hb dX2_mostAlike_72 (by decide) ?_
                  rw [Int32.add_assoc, cntB_t (p := fun z => decide (ux z = (fun k => crk (nI k) (yFact r who 2) (nI (L % 10)) (nI (L / 10)) (yNext r)) n)) (by simpa using c5)] at hl
                  exact ih47 (q + 1) (by omega) (by omega) _ _ hP hD hS _ (lv_sub hl [2, 3, 4, 5, 6, 7, 8, 9, 10, 11, 1, 0] rfl)
          exact cut47 _ 0 (Nat.lt_succ_self _) (by omega) _ _ hP hD hS _ (lv_sub hl [3, 4, 5, 6, 7, 8, 9, 10, 11, 2, 1, 0] rfl)
        · skip
          have c2 := b2i_0 c2
          refine lv_goto (tgt := 103) hx hb dX2_mostAlike_26 (by decide) ?_
          refine lv_iinc (v := nI (n + 1)) (lv' := [(8, .int (nI (n + 1))), (0, .ref (u 0)), (1, .int (1)), (2, .ref (a 0)), (3, .int (who)), (4, .int (cand)), (5, .int (nI L)), (6, .int (nI S)), (7, .int (moF (fun k => crk (nI k) (yFact r who 2) (nI (L % 10)) (nI (L / 10)) (yNext r)) cand n))]) hx hb dX2_mostAlike_103 hl (k := 8) rfl (inc_nI n) (by decide) rfl (fun ls hl => ?_)
          refine lv_goto (tgt := 9) hx hb dX2_mostAlike_106 (by decide) ?_
          have e9 : moF (fun k => crk (nI k) (yFact r who 2) (nI (L % 10)) (nI (L / 10)) (yNext r)) cand (n + 1) = moF (fun k => crk (nI k) (yFact r who 2) (nI (L % 10)) (nI (L / 10)) (yNext r)) cand n := moF_f c2
          have hl : lv_has ls 12 [(8, .int (nI (n + 1))), (0, .ref (u 0)), (1, .int (1)), (2, .ref (a 0)), (3, .int (who)), (4, .int (cand)), (5, .int (nI L)), (6, .int (nI S)), (7, .int (moF (fun k => crk (nI k) (yFact r who 2) (nI (L % 10)) (nI (L / 10)) (yNext r)) cand (n + 1)))] := by rw [e9]; exact hl
          exact ih9 (n + 1) S ux (by omega) (by omega) (by omega) (inv_f hinv c2) _ _ hP hD hS _ (lv_sub hl [1, 2, 3, 4, 5, 6, 7, 8, 0] rfl)
  exact cut9 _ 0 0 uf (Nat.lt_succ_self _) (by omega) (by omega) (fun v => rfl) _ _ hP hD hS _ (lv_sub hl [3, 4, 5, 6, 7, 8, 2, 1, 0] rfl)
set_option maxHeartbeats 4000000 in
set_option maxRecDepth 100000 in
theorem kX2_mostAlike_2 (l : Launch) (g : gG) (u : Nat → Nat) (uf : Nat → Int32) (a : Nat → Nat) (r : Nat → Int32) (who cand : Int32) (L : Nat) (hw : Wf r) (hL : L < 210) : Met l yX2_mostAlike (.code yX2_mostAlike cX2_mostAlike 12 (some .int) :: gw) (rmN 5) (va_Pc [.ref (u 0), .int (2), .ref (a 0), .int (who), .int (cand), .int (nI L)] (rwPre g (uW g u uf ++ (yW g a r ++ [])))) (rxQi g (uW g u uf ++ (yW g a r ++ [])) (fun u9 : (Nat → Int32) => uW g u u9 ++ (yW g a r ++ [])) (moF (fun k => frc (nI k) (yPF r who 1) (nI (L % 10)) (nI (L / 10))) cand 10)) 0 0 (dm (uW g u uf ++ (yW g a r ++ []))) := by
  refine met_start (by decide) (Nat.le_of_ble_eq_true rfl) ?_
  intro pp ee ss mm bl mt cd hC hpre ls hl
  obtain ⟨⟨hx, hb, hml, hown, hts⟩, hr, hlk, hnm⟩ := id hC
  have hl : lv_has ls 12 [(0, .ref (u 0)), (1, .int (2)), (2, .ref (a 0)), (3, .int (who)), (4, .int (cand)), (5, .int (nI L))] := hl
  obtain ⟨hP, hK, hD⟩ := hpre
  have hS : va_S (dm (uW g u uf ++ (yW g a r ++ []))) ss.heap ss.heap [] := va_S.rf
  have hD := vD_self hD
  refine lv_iconst (v := 0) hx hb dX2_mostAlike_0 rfl ?_
  refine lv_istore (lv' := [(6, .int (0)), (0, .ref (u 0)), (1, .int (2)), (2, .ref (a 0)), (3, .int (who)), (4, .int (cand)), (5, .int (nI L))]) hx hb dX2_mostAlike_1 hl (by decide) rfl (fun ls hl => ?_)
  refine lv_iconst (v := 0) hx hb dX2_mostAlike_3 rfl ?_
  refine lv_istore (lv' := [(7, .int (0)), (6, .int (0)), (0, .ref (u 0)), (1, .int (2)), (2, .ref (a 0)), (3, .int (who)), (4, .int (cand)), (5, .int (nI L))]) hx hb dX2_mostAlike_4 hl (by decide) rfl (fun ls hl => ?_)
  refine lv_iconst (v := 0) hx hb dX2_mostAlike_6 rfl ?_
  refine lv_istore (lv' := [(8, .int (0)), (7, .int (0)), (6, .int (0)), (0, .ref (u 0)), (1, .int (2)), (2, .ref (a 0)), (3, .int (who)), (4, .int (cand)), (5, .int (nI L))]) hx hb dX2_mostAlike_7 hl (by decide) rfl (fun ls hl => ?_)
  have cut9 : ∀ kk : Nat, ∀ (n S : Nat) (ux : Nat → Int32), 11 - n < kk → (hn : n ≤ 10) → (hSn : S ≤ n) → (hinv : ∀ v, cntB (fun z => decide (ux z = v)) S = cntB (fun j => hasB cand (nI j) && decide ((fun k => frc (nI k) (yPF r who 1) (nI (L % 10)) (nI (L / 10))) j = v)) n) → ∀ (H : Heap) (locs : List Loc), kP g (uW g u ux ++ (yW g a r ++ [])) H → va_D (dm (uW g u uf ++ (yW g a r ++ []))) (uW g u ux ++ (yW g a r ++ [])) → va_S (dm (uW g u uf ++ (yW g a r ++ []))) ss.heap H locs → ∀ (ls : Array Slot), lv_has ls 12 [(0, .ref (u 0)), (1, .int (2)), (2, .ref (a 0)), (3, .int (who)), (4, .int (cand)), (5, .int (nI L)), (6, .int (nI S)), (7, .int (moF (fun k => frc (nI k) (yPF r who 1) (nI (L % 10)) (nI (L / 10))) cand n)), (8, .int (nI n))] → W pp l ee (rmN 5) ss mm ([.ref (u 0), .int (2), .ref (a 0), .int (who), .int (cand), .int (nI L)] : List Value).toArray bl mt cd H locs 0 0 (MQ bl (rxQi g (uW g u uf ++ (yW g a r ++ [])) (fun u9 : (Nat → Int32) => uW g u u9 ++ (yW g a r ++ [])) (moF (fun k => frc (nI k) (yPF r who 1) (nI (L % 10)) (nI (L / 10))) cand 10)) ([.ref (u 0), .int (2), .ref (a 0), .int (who), .int (cand), .int (nI L)] : List Value).toArray ss 0 0 (dm (uW g u uf ++ (yW g a r ++ [])))) (F0 mm 9 ls []) := by
    intro kk
    induction kk with
    | zero => intro n S ux hmu; exact absurd hmu (Nat.not_lt_zero _)
    | succ kk ih9 =>
      intro n S ux hmu hn hSn hinv H locs hP hD hS ls hl
      refine lv_iload hx hb dX2_mostAlike_9 (lv_at hl 8 rfl) ?_
      refine lv_bipush (v := 10) hx hb dX2_mostAlike_11 rfl ?_
      refine lv_icmp_ge (tgt := 109) hx hb dX2_mostAlike_13 (by decide) (fun c1 => ?_) (fun c1 => ?_)
      · skip
        have c1' := Int32.not_lt.mpr c1
        have hn9 : n = 10 := by have := lp_ge (by omega) c1; rw [show (10 : Int32).toInt = 10 from rfl] at this; omega
        subst hn9
        refine lv_iload hx hb dX2_mostAlike_109 (lv_at hl 7 rfl) ?_
        exact ret_rxi (S := (Nat → Int32)) ux hx hb hr hlk (by rfl) (hP) hS dX2_mostAlike_111
      · skip
        have c1' := Int32.not_le.mp c1
        have hn9 : n < 10 := by have := lp_lt (by omega) c1; rw [show (10 : Int32).toInt = 10 from rfl] at this; omega
        refine lv_iload hx hb dX2_mostAlike_16 (lv_at hl 4 rfl) ?_
        refine lv_iload hx hb dX2_mostAlike_18 (lv_at hl 8 rfl) ?_
        refine ro_i (run_SN (As := [.int (cand), .int (nI n)]) (rest := []) hC.1 ckX8_has (kX8_has l cand (nI n)) (hK.2.2 _ _ _ _ m_789) (fb_nil _) (fun _ _ _ => trivial) ⟨rfl, rfl, Nat.le_of_ble_eq_true rfl, Nat.le_of_ble_eq_true rfl⟩ rfl hl.1 rfl (Nat.le_of_ble_eq_true rfl) dX2_mostAlike_20 ⟨Nat.le_of_ble_eq_true rfl, Nat.le_of_ble_eq_true rfl⟩) ?_
        refine lv_if_ne (tgt := 29) hx hb dX2_mostAlike_23 (by decide) (fun c2 => ?_) (fun c2 => ?_)
        · skip
          have c2 := b2i_1 c2
          refine lv_iload_n hx hb dX2_mostAlike_29 rfl (lv_at hl 1 rfl) ?_
          refine lv_aload_n hx hb dX2_mostAlike_30 rfl (lv_at hl 2 rfl) ?_
          refine lv_iload_n hx hb dX2_mostAlike_31 rfl (lv_at hl 3 rfl) ?_
          refine lv_iload hx hb dX2_mostAlike_32 (lv_at hl 8 rfl) ?_
          refine lv_iload hx hb dX2_mostAlike_34 (lv_at hl 5 rfl) ?_
          refine ro_i (run_S (As := [.int (2), .ref (a 0), .int (who), .int (nI n), .int (nI L)]) (rest := []) hC.1 ckX2_answerOf (kX2_answerOf_2 l g a r who (nI n) L hw hL) (gw_in m_790 rfl) (fb_ro _ _ _) (fun U hU hW => ⟨by rw [hU]; exact (kP_app.mp (kP_app.mp hP).2).1, kK_warm hW hK⟩) ⟨rfl, rfl, Nat.le_of_ble_eq_true rfl, Nat.le_of_ble_eq_true rfl⟩ rfl hl.1 rfl (Nat.le_of_ble_eq_true rfl) dX2_mostAlike_36 ⟨Nat.le_of_ble_eq_true rfl, Nat.le_of_ble_eq_true rfl⟩) ?_
          refine top_i (x := frc (nI n) (yPF r who 1) (nI (L % 10)) (nI (L / 10))) (y := (fun k => frc (nI k) (yPF r who 1) (nI (L % 10)) (nI (L / 10))) n) rfl ?_
          refine lv_istore (lv' := [(9, .int ((fun k => frc (nI k) (yPF r who 1) (nI (L % 10)) (nI (L / 10))) n)), (0, .ref (u 0)), (1, .int (2)), (2, .ref (a 0)), (3, .int (who)), (4, .int (cand)), (5, .int (nI L)), (6, .int (nI S)), (7, .int (moF (fun k => frc (nI k) (yPF r who 1) (nI (L % 10)) (nI (L / 10))) cand n)), (8, .int (nI n))]) hx hb dX2_mostAlike_39 hl (by decide) rfl (fun ls hl => ?_)
          refine lv_iconst (v := 1) hx hb dX2_mostAlike_41 rfl ?_
          refine lv_istore (lv' := [(10, .int (1)), (9, .int ((fun k => frc (nI k) (yPF r who 1) (nI (L % 10)) (nI (L / 10))) n)), (0, .ref (u 0)), (1, .int (2)), (2, .ref (a 0)), (3, .int (who)), (4, .int (cand)), (5, .int (nI L)), (6, .int (nI S)), (7, .int (moF (fun k => frc (nI k) (yPF r who 1) (nI (L % 10)) (nI (L / 10))) cand n)), (8, .int (nI n))]) hx hb dX2_mostAlike_42 hl (by decide) rfl (fun ls hl => ?_)
          refine lv_iconst (v := 0) hx hb dX2_mostAlike_44 rfl ?_
          refine lv_istore (lv' := [(11, .int (0)), (10, .int (1)), (9, .int ((fun k => frc (nI k) (yPF r who 1) (nI (L % 10)) (nI (L / 10))) n)), (0, .ref (u 0)), (1, .int (2)), (2, .ref (a 0)), (3, .int (who)), (4, .int (cand)), (5, .int (nI L)), (6, .int (nI S)), (7, .int (moF (fun k => frc (nI k) (yPF r who 1) (nI (L % 10)) (nI (L / 10))) cand n)), (8, .int (nI n))]) hx hb dX2_mostAlike_45 hl (by decide) rfl (fun ls hl => ?_)
          have cut47 : ∀ kk : Nat, ∀ (q : Nat), 11 - q < kk → (hq : q ≤ S) → ∀ (H : Heap) (locs : List Loc), kP g (uW g u ux ++ (yW g a r ++ [])) H → va_D (dm (uW g u uf ++ (yW g a r ++ []))) (uW g u ux ++ (yW g a r ++ [])) → va_S (dm (uW g u uf ++ (yW g a r ++ []))) ss.heap H locs → ∀ (ls : Array Slot), lv_has ls 12 [(0, .ref (u 0)), (1, .int (2)), (2, .ref (a 0)), (3, .int (who)), (4, .int (cand)), (5, .int (nI L)), (6, .int (nI S)), (7, .int (moF (fun k => frc (nI k) (yPF r who 1) (nI (L % 10)) (nI (L / 10))) cand n)), (8, .int (nI n)), (9, .int ((fun k => frc (nI k) (yPF r who 1) (nI (L % 10)) (nI (L / 10))) n)), (10, .int (1 + cntB (fun z => decide (ux z = (fun k => frc (nI k) (yPF r who 1) (nI (L % 10)) (nI (L / 10))) n)) q)), (11, .int (nI q))] → W pp l ee (rmN 5) ss mm ([.ref (u 0), .int (2), .ref (a 0), .int (who), .int (cand), .int (nI L)] : List Value).toArray bl mt cd H locs 0 0 (MQ bl (rxQi g (uW g u uf ++ (yW g a r ++ [])) (fun u9 : (Nat → Int32) => uW g u u9 ++ (yW g a r ++ [])) (moF (fun k => frc (nI k) (yPF r who 1) (nI (L % 10)) (nI (L / 10))) cand 10)) ([.ref (u 0), .int (2), .ref (a 0), .int (who), .int (cand), .int (nI L)] : List Value).toArray ss 0 0 (dm (uW g u uf ++ (yW g a r ++ [])))) (F0 mm 47 ls []) := by
            intro kk
            induction kk with
            | zero => intro q hmu; exact absurd hmu (Nat.not_lt_zero _)
            | succ kk ih47 =>
              intro q hmu hq H locs hP hD hS ls hl
              refine lv_iload hx hb dX2_mostAlike_47 (lv_at hl 11 rfl) ?_
              refine lv_iload hx hb dX2_mostAlike_49 (lv_at hl 6 rfl) ?_
              refine lv_icmp_ge (tgt := 75) hx hb dX2_mostAlike_51 (by decide) (fun c3 => ?_) (fun c3 => ?_)
              · skip
                have c3' := Int32.not_lt.mpr c3
                have hq9 : S = q := by rw [nI_leI (by omega) (by omega)] at c3; omega
                subst hq9
                have hl : lv_has ls 12 [(0, .ref (u 0)), (1, .int (2)), (2, .ref (a 0)), (3, .int (who)), (4, .int (cand)), (5, .int (nI L)), (6, .int (nI S)), (7, .int (moF (fun k => frc (nI k) (yPF r who 1) (nI (L % 10)) (nI (L / 10))) cand n)), (8, .int (nI n)), (9, .int ((fun k => frc (nI k) (yPF r who 1) (nI (L % 10)) (nI (L / 10))) n)), (10, .int (alF (fun k => frc (nI k) (yPF r who 1) (nI (L % 10)) (nI (L / 10))) cand n))] := by rw [← al_eq hinv]; exact lv_sub hl [0, 1, 2, 3, 4, 5, 6, 7, 8, 9, 10] rfl
                refine lv_iload hx hb dX2_mostAlike_75 (lv_at hl 6 rfl) ?_
                refine lv_bipush (v := 10) hx hb dX2_mostAlike_77 rfl ?_
                refine lv_icmp_ge (tgt := 94) hx hb dX2_mostAlike_79 (by decide) (fun c4 => ?_) (fun c4 => ?_)
                · skip
                  have c4' := Int32.not_lt.mpr c4
                  exact absurd c4 (show ¬ nI 10 ≤ nI S from nI_ge (by omega) (by omega))
                · skip
                  have c4' := Int32.not_le.mp c4
                  refine lv_aload_n hx hb dX2_mostAlike_82 rfl (lv_at hl 0 rfl) ?_
                  refine kget hC.1 hK (kP_app.mp hP).1 0 rfl rfl in_2 0 (by decide) (gw_in m_278 rfl) rfl dX2_mostAlike_83 ?_
                  refine lv_iload hx hb dX2_mostAlike_86 (lv_at hl 6 rfl) ?_
                  refine lv_iinc (v := nI (S + 1)) (lv' := [(6, .int (nI (S + 1))), (0, .ref (u 0)), (1, .int (2)), (2, .ref (a 0)), (3, .int (who)), (4, .int (cand)), (5, .int (nI L)), (7, .int (moF (fun k => frc (nI k) (yPF r who 1) (nI (L % 10)) (nI (L / 10))) cand n)), (8, .int (nI n)), (9, .int ((fun k => frc (nI k) (yPF r who 1) (nI (L % 10)) (nI (L / 10))) n)), (10, .int (alF (fun k => frc (nI k) (yPF r who 1) (nI (L % 10)) (nI (L / 10))) cand n))]) hx hb dX2_mostAlike_88 hl (k := 6) rfl (inc_nI S) (by decide) rfl (fun ls hl => ?_)
                  refine lv_iload hx hb dX2_mostAlike_91 (lv_at hl 9 rfl) ?_
                  refine kast (B' := uW g u (upd ux S ((fun k => frc (nI k) (yPF r who 1) (nI (L % 10)) (nI (L / 10))) n))) hC.1 hK hP hD hS 1 rfl (vp_in_nI (by omega) (by omega)) (fun _ h => by rw [cl_nI (by omega)] at h; exact h) uW_adr dX2_mostAlike_93 (fun H locs hP hD hS => ?_)
                  refine lv_iload hx hb dX2_mostAlike_94 (lv_at hl 7 rfl) ?_
                  refine lv_iload hx hb dX2_mostAlike_96 (lv_at hl 10 rfl) ?_
                  refine va_mmax hx hb (hml.trans hl.1.symm) hown (hts _ (gw_in m_795 rfl)) (hts _ (gw_in m_528 rfl)) (hts _ (gw_in m_67 rfl)) (hts _ (gw_in m_529 rfl)) (Nat.le_of_ble_eq_true rfl) (Nat.le_of_ble_eq_true rfl) (Nat.le_of_ble_eq_true rfl) (Nat.le_of_ble_eq_true rfl) dX2_mostAlike_98 ?_
                  refine lv_istore (lv' := [(7, .int (if moF (fun k => frc (nI k) (yPF r who 1) (nI (L % 10)) (nI (L / 10))) cand n < alF (fun k => frc (nI k) (yPF r who 1) (nI (L % 10)) (nI (L / 10))) cand n then alF (fun k => frc (nI k) (yPF r who 1) (nI (L % 10)) (nI (L / 10))) cand n else moF (fun k => frc (nI k) (yPF r who 1) (nI (L % 10)) (nI (L / 10))) cand n)), (6, .int (nI (S + 1))), (0, .ref (u 0)), (1, .int (2)), (2, .ref (a 0)), (3, .int (who)), (4, .int (cand)), (5, .int (nI L)), (8, .int (nI n)), (9, .int ((fun k => frc (nI k) (yPF r who 1) (nI (L % 10)) (nI (L / 10))) n)), (10, .int (alF (fun k => frc (nI k) (yPF r who 1) (nI (L % 10)) (nI (L / 10))) cand n))]) hx hb dX2_mostAlike_101 hl (by decide) rfl (fun ls hl => ?_)
                  refine lv_iinc (v := nI (n + 1)) (lv' := [(8, .int (nI (n + 1))), (7, .int (if moF (fun k => frc (nI k) (yPF r who 1) (nI (L % 10)) (nI (L / 10))) cand n < alF (fun k => frc (nI k) (yPF r who 1) (nI (L % 10)) (nI (L / 10))) cand n then alF (fun k => frc (nI k) (yPF r who 1) (nI (L % 10)) (nI (L / 10))) cand n else moF (fun k => frc (nI k) (yPF r who 1) (nI (L % 10)) (nI (L / 10))) cand n)), (6, .int (nI (S + 1))), (0, .ref (u 0)), (1, .int (2)), (2, .ref (a 0)), (3, .int (who)), (4, .int (cand)), (5, .int (nI L)), (9, .int ((fun k => frc (nI k) (yPF r who 1) (nI (L % 10)) (nI (L / 10))) n)), (10, .int (alF (fun k => frc (nI k) (yPF r who 1) (nI (L % 10)) (nI (L / 10))) cand n))]) hx hb dX2_mostAlike_103 hl (k := 8) rfl (inc_nI n) (by decide) rfl (fun ls hl => ?_)
                  refine lv_goto (tgt := 9) hx hb dX2_mostAlike_106 (by decide) ?_
                  have e9 : moF (fun k => frc (nI k) (yPF r who 1) (nI (L % 10)) (nI (L / 10))) cand (n + 1) = if moF (fun k => frc (nI k) (yPF r who 1) (nI (L % 10)) (nI (L / 10))) cand n < alF (fun k => frc (nI k) (yPF r who 1) (nI (L % 10)) (nI (L / 10))) cand n then alF (fun k => frc (nI k) (yPF r who 1) (nI (L % 10)) (nI (L / 10))) cand n else moF (fun k => frc (nI k) (yPF r who 1) (nI (L % 10)) (nI (L / 10))) cand n := moF_t c2
                  have hl : lv_has ls 12 [(8, .int (nI (n + 1))), (7, .int (moF (fun k => frc (nI k) (yPF r who 1) (nI (L % 10)) (nI (L / 10))) cand (n + 1))), (6, .int (nI (S + 1))), (0, .ref (u 0)), (1, .int (2)), (2, .ref (a 0)), (3, .int (who)), (4, .int (cand)), (5, .int (nI L)), (9, .int ((fun k => frc (nI k) (yPF r who 1) (nI (L % 10)) (nI (L / 10))) n)), (10, .int (alF (fun k => frc (nI k) (yPF r who 1) (nI (L % 10)) (nI (L / 10))) cand n))] := by rw [e9]; exact hl
                  exact ih9 (n + 1) (S + 1) (upd ux S ((fun k => frc (nI k) (yPF r who 1) (nI (L % 10)) (nI (L / 10))) n)) (by omega) (by omega) (by omega) (inv_t hinv c2) _ _ hP hD hS _ (lv_sub hl [3, 4, 5, 6, 7, 8, 2, 1, 0] rfl)
              · skip
                have c3' := Int32.not_le.mp c3
                have hq9 : q < S := by rw [nI_leI (by omega) (by omega)] at c3; omega
                refine lv_aload_n hx hb dX2_mostAlike_54 rfl (lv_at hl 0 rfl) ?_
                refine kget hC.1 hK (kP_app.mp hP).1 0 rfl rfl in_2 0 (by decide) (gw_in m_278 rfl) rfl dX2_mostAlike_55 ?_
                refine lv_iload hx hb dX2_mostAlike_58 (lv_at hl 11 rfl) ?_
                refine kald (v := ux q) hC.1 hK (kP_app.mp hP).1 1 rfl (vp_in_nI (by omega) (by omega)) (by rw [cl_nI (by omega)]) dX2_mostAlike_60 ?_
                refine lv_iload hx hb dX2_mostAlike_61 (lv_at hl 9 rfl) ?_
                refine lv_icmp_ne (tgt := 69) hx hb dX2_mostAlike_63 (by decide) (fun c5 => ?_) (fun c5 => ?_)
                · skip
                  refine lv_iinc (v := nI (q + 1)) (lv' := [(11, .int (nI (q + 1))), (0, .ref (u 0)), (1, .int (2)), (2, .ref (a 0)), (3, .int (who)), (4, .int (cand)), (5, .int (nI L)), (6, .int (nI S)), (7, .int (moF (fun k => frc (nI k) (yPF r who 1) (nI (L % 10)) (nI (L / 10))) cand n)), (8, .int (nI n)), (9, .int ((fun k => frc (nI k) (yPF r who 1) (nI (L % 10)) (nI (L / 10))) n)), (10, .int (1 + cntB (fun z => decide (ux z = (fun k => frc (nI k) (yPF r who 1) (nI (L % 10)) (nI (L / 10))) n)) q))]) hx hb dX2_mostAlike_69 hl (k := 11) rfl (inc_nI q) (by decide) rfl (fun ls hl => ?_)
                  refine lv_goto (tgt := 47) hx hb dX2_mostAlike_72 (by decide) ?_
                  rw [cntB_f (p := fun z => decide (ux z = (fun k => frc (nI k) (yPF r who 1) (nI (L % 10)) (nI (L / 10))) n)) (by simpa using c5)] at hl
                  exact ih47 (q + 1) (by omega) (by omega) _ _ hP hD hS _ (lv_sub hl [1, 2, 3, 4, 5, 6, 7, 8, 9, 10, 11, 0] rfl)
                · skip
                  refine lv_iinc (v := (1 + cntB (fun z => decide (ux z = (fun k => frc (nI k) (yPF r who 1) (nI (L % 10)) (nI (L / 10))) n)) q) + 1) (lv' := [(10, .int ((1 + cntB (fun z => decide (ux z = (fun k => frc (nI k) (yPF r who 1) (nI (L % 10)) (nI (L / 10))) n)) q) + 1)), (0, .ref (u 0)), (1, .int (2)), (2, .ref (a 0)), (3, .int (who)), (4, .int (cand)), (5, .int (nI L)), (6, .int (nI S)), (7, .int (moF (fun k => frc (nI k) (yPF r who 1) (nI (L % 10)) (nI (L / 10))) cand n)), (8, .int (nI n)), (9, .int ((fun k => frc (nI k) (yPF r who 1) (nI (L % 10)) (nI (L / 10))) n)), (11, .int (nI q))]) hx hb dX2_mostAlike_66 hl (k := 10) rfl rfl (by decide) rfl (fun ls hl => ?_)
                  refine lv_iinc (v := nI (q + 1)) (lv' := [(11, .int (nI (q + 1))), (10, .int ((1 + cntB (fun z => decide (ux z = (fun k => frc (nI k) (yPF r who 1) (nI (L % 10)) (nI (L / 10))) n)) q) + 1)), (0, .ref (u 0)), (1, .int (2)), (2, .ref (a 0)), (3, .int (who)), (4, .int (cand)), (5, .int (nI L)), (6, .int (nI S)), (7, .int (moF (fun k => frc (nI k) (yPF r who 1) (nI (L % 10)) (nI (L / 10))) cand n)), (8, .int (nI n)), (9, .int ((fun k => frc (nI k) (yPF r who 1) (nI (L % 10)) (nI (L / 10))) n))]) hx hb dX2_mostAlike_69 hl (k := 11) rfl (inc_nI q) (by decide) rfl (fun ls hl => ?_)
                  refine lv_goto (tgt := 47) hx hb dX2_mostAlike_72 (by decide) ?_
                  rw [Int32.add_assoc, cntB_t (p := fun z => decide (ux z = (fun k => frc (nI k) (yPF r who 1) (nI (L % 10)) (nI (L / 10))) n)) (by simpa using c5)] at hl
                  exact ih47 (q + 1) (by omega) (by omega) _ _ hP hD hS _ (lv_sub hl [2, 3, 4, 5, 6, 7, 8, 9, 10, 11, 1, 0] rfl)
          exact cut47 _ 0 (Nat.lt_succ_self _) (by omega) _ _ hP hD hS _ (lv_sub hl [3, 4, 5, 6, 7, 8, 9, 10, 11, 2, 1, 0] rfl)
        · skip
          have c2 := b2i_0 c2
          refine lv_goto (tgt := 103) hx hb dX2_mostAlike_26 (by decide) ?_
          refine lv_iinc (v := nI (n + 1)) (lv' := [(8, .int (nI (n + 1))), (0, .ref (u 0)), (1, .int (2)), (2, .ref (a 0)), (3, .int (who)), (4, .int (cand)), (5, .int (nI L)), (6, .int (nI S)), (7, .int (moF (fun k => frc (nI k) (yPF r who 1) (nI (L % 10)) (nI (L / 10))) cand n))]) hx hb dX2_mostAlike_103 hl (k := 8) rfl (inc_nI n) (by decide) rfl (fun ls hl => ?_)
          refine lv_goto (tgt := 9) hx hb dX2_mostAlike_106 (by decide) ?_
          have e9 : moF (fun k => frc (nI k) (yPF r who 1) (nI (L % 10)) (nI (L / 10))) cand (n + 1) = moF (fun k => frc (nI k) (yPF r who 1) (nI (L % 10)) (nI (L / 10))) cand n := moF_f c2
          have hl : lv_has ls 12 [(8, .int (nI (n + 1))), (0, .ref (u 0)), (1, .int (2)), (2, .ref (a 0)), (3, .int (who)), (4, .int (cand)), (5, .int (nI L)), (6, .int (nI S)), (7, .int (moF (fun k => frc (nI k) (yPF r who 1) (nI (L % 10)) (nI (L / 10))) cand (n + 1)))] := by rw [e9]; exact hl
          exact ih9 (n + 1) S ux (by omega) (by omega) (by omega) (inv_f hinv c2) _ _ hP hD hS _ (lv_sub hl [1, 2, 3, 4, 5, 6, 7, 8, 0] rfl)
  exact cut9 _ 0 0 uf (Nat.lt_succ_self _) (by omega) (by omega) (fun v => rfl) _ _ hP hD hS _ (lv_sub hl [3, 4, 5, 6, 7, 8, 2, 1, 0] rfl)
