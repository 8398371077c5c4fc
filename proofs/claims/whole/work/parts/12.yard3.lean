theorem ckX7_leftOf : ckV yX7_leftOf cX7_leftOf 3 (some .int) 2 := ⟨(gw_in m_656 rfl), (gw_in m_64 rfl), ⟨(gw_in m_654 rfl), (gw_in m_655 rfl)⟩, by decide +kernel, by decide +kernel, by decide +kernel⟩
theorem ckX7_strike : ckV yX7_strike cX7_strike 4 (some .boolean) 2 := ⟨(gw_in m_509 rfl), (gw_in m_64 rfl), ⟨(gw_in m_507 rfl), (gw_in m_508 rfl)⟩, by decide +kernel, by decide +kernel, by decide +kernel⟩
def yLeft (r : Nat → Int32) (i j : Int32) : Int32 := if yWhl r i = true ∧ yBrk r j = true then i else if yWhl r j = true ∧ yBrk r i = true then j else -1
set_option maxHeartbeats 4000000 in
set_option maxRecDepth 100000 in
theorem kX7_leftOf (l : Launch) (g : gG) (a : Nat → Nat) (r : Nat → Int32) (i j : Int32) (h2 : (r 2).toInt ≤ 6) : Met l yX7_leftOf (.code yX7_leftOf cX7_leftOf 3 (some .int) :: gw) (rmN 2) (va_Pc [.ref (a 0), .int (i), .int (j)] (roPre g (yW g a r))) (vp_Si (fun v => v = (yLeft r i j))) 0 0 (fun _ => False) := by
  refine met_start (by decide) (Nat.le_of_ble_eq_true rfl) ?_
  intro pp ee ss mm bl mt cd hC hpre ls hl
  obtain ⟨⟨hx, hb, hml, hown, hts⟩, hr, hlk, hnm⟩ := id hC
  have hl : lv_has ls 3 [(0, .ref (a 0)), (1, .int (i)), (2, .int (j))] := hl
  obtain ⟨hP, hK⟩ := hpre
  refine lv_aload_n hx hb dX7_leftOf_0 rfl (lv_at hl 0 rfl) ?_
  refine lv_iload_n hx hb dX7_leftOf_1 rfl (lv_at hl 1 rfl) ?_
  refine ro_i (run_V (As := [.int (i)]) (rest := []) hC.1 ckX7_isWhole (kX7_isWhole l g a r i h2) (gw_in m_543 rfl) (fb_ro _ _ _) (va_recv hK.1 hP (q0 := 0) rfl rfl) (fun U hU hW => ⟨by rw [hU]; exact hP, kK_warm hW hK⟩) ⟨rfl, rfl, Nat.le_of_ble_eq_true rfl, Nat.le_of_ble_eq_true rfl⟩ rfl hl.1 rfl (Nat.le_of_ble_eq_true rfl) dX7_leftOf_2 ⟨Nat.le_of_ble_eq_true rfl, Nat.le_of_ble_eq_true rfl⟩) ?_
  refine lv_if_eq (tgt := 18) hx hb dX7_leftOf_5 (by decide) (fun c1 => ?_) (fun c1 => ?_)
  · skip
    have c1 := b2i_0 c1
    refine lv_aload_n hx hb dX7_leftOf_18 rfl (lv_at hl 0 rfl) ?_
    refine lv_iload_n hx hb dX7_leftOf_19 rfl (lv_at hl 2 rfl) ?_
    refine ro_i (run_V (As := [.int (j)]) (rest := []) hC.1 ckX7_isWhole (kX7_isWhole l g a r j h2) (gw_in m_543 rfl) (fb_ro _ _ _) (va_recv hK.1 hP (q0 := 0) rfl rfl) (fun U hU hW => ⟨by rw [hU]; exact hP, kK_warm hW hK⟩) ⟨rfl, rfl, Nat.le_of_ble_eq_true rfl, Nat.le_of_ble_eq_true rfl⟩ rfl hl.1 rfl (Nat.le_of_ble_eq_true rfl) dX7_leftOf_20 ⟨Nat.le_of_ble_eq_true rfl, Nat.le_of_ble_eq_true rfl⟩) ?_
    refine lv_if_eq (tgt := 36) hx hb dX7_leftOf_23 (by decide) (fun c2 => ?_) (fun c2 => ?_)
    · skip
      have c2 := b2i_0 c2
      refine lv_iconst (v := -1) hx hb dX7_leftOf_36 rfl ?_
      exact ret_roi hx hb hr hlk (by first | (simp [yLeft, Int32.not_le, Int32.not_lt, c1, c2]; done) | (clear hx hb hr hlk hnm hml hown hts hC hl; simp_all [yLeft, Int32.not_le, Int32.not_lt])) dX7_leftOf_37
    · skip
      have c2 := b2i_1 c2
      refine lv_aload_n hx hb dX7_leftOf_26 rfl (lv_at hl 0 rfl) ?_
      refine lv_iload_n hx hb dX7_leftOf_27 rfl (lv_at hl 1 rfl) ?_
      refine ro_i (run_V (As := [.int (i)]) (rest := []) hC.1 ckX7_isBroken (kX7_isBroken l g a r i h2) (gw_in m_542 rfl) (fb_ro _ _ _) (va_recv hK.1 hP (q0 := 0) rfl rfl) (fun U hU hW => ⟨by rw [hU]; exact hP, kK_warm hW hK⟩) ⟨rfl, rfl, Nat.le_of_ble_eq_true rfl, Nat.le_of_ble_eq_true rfl⟩ rfl hl.1 rfl (Nat.le_of_ble_eq_true rfl) dX7_leftOf_28 ⟨Nat.le_of_ble_eq_true rfl, Nat.le_of_ble_eq_true rfl⟩) ?_
      refine lv_if_eq (tgt := 36) hx hb dX7_leftOf_31 (by decide) (fun c3 => ?_) (fun c3 => ?_)
      · skip
        have c3 := b2i_0 c3
        refine lv_iconst (v := -1) hx hb dX7_leftOf_36 rfl ?_
        exact ret_roi hx hb hr hlk (by first | (simp [yLeft, Int32.not_le, Int32.not_lt, c1, c2, c3]; done) | (clear hx hb hr hlk hnm hml hown hts hC hl; simp_all [yLeft, Int32.not_le, Int32.not_lt])) dX7_leftOf_37
      · skip
        have c3 := b2i_1 c3
        refine lv_iload_n hx hb dX7_leftOf_34 rfl (lv_at hl 2 rfl) ?_
        exact ret_roi hx hb hr hlk (by first | (simp [yLeft, Int32.not_le, Int32.not_lt, c1, c2, c3]; done) | (clear hx hb hr hlk hnm hml hown hts hC hl; simp_all [yLeft, Int32.not_le, Int32.not_lt])) dX7_leftOf_35
  · skip
    have c1 := b2i_1 c1
    refine lv_aload_n hx hb dX7_leftOf_8 rfl (lv_at hl 0 rfl) ?_
    refine lv_iload_n hx hb dX7_leftOf_9 rfl (lv_at hl 2 rfl) ?_
    refine ro_i (run_V (As := [.int (j)]) (rest := []) hC.1 ckX7_isBroken (kX7_isBroken l g a r j h2) (gw_in m_542 rfl) (fb_ro _ _ _) (va_recv hK.1 hP (q0 := 0) rfl rfl) (fun U hU hW => ⟨by rw [hU]; exact hP, kK_warm hW hK⟩) ⟨rfl, rfl, Nat.le_of_ble_eq_true rfl, Nat.le_of_ble_eq_true rfl⟩ rfl hl.1 rfl (Nat.le_of_ble_eq_true rfl) dX7_leftOf_10 ⟨Nat.le_of_ble_eq_true rfl, Nat.le_of_ble_eq_true rfl⟩) ?_
    refine lv_if_eq (tgt := 18) hx hb dX7_leftOf_13 (by decide) (fun c4 => ?_) (fun c4 => ?_)
    · skip
      have c4 := b2i_0 c4
      refine lv_aload_n hx hb dX7_leftOf_18 rfl (lv_at hl 0 rfl) ?_
      refine lv_iload_n hx hb dX7_leftOf_19 rfl (lv_at hl 2 rfl) ?_
      refine ro_i (run_V (As := [.int (j)]) (rest := []) hC.1 ckX7_isWhole (kX7_isWhole l g a r j h2) (gw_in m_543 rfl) (fb_ro _ _ _) (va_recv hK.1 hP (q0 := 0) rfl rfl) (fun U hU hW => ⟨by rw [hU]; exact hP, kK_warm hW hK⟩) ⟨rfl, rfl, Nat.le_of_ble_eq_true rfl, Nat.le_of_ble_eq_true rfl⟩ rfl hl.1 rfl (Nat.le_of_ble_eq_true rfl) dX7_leftOf_20 ⟨Nat.le_of_ble_eq_true rfl, Nat.le_of_ble_eq_true rfl⟩) ?_
      refine lv_if_eq (tgt := 36) hx hb dX7_leftOf_23 (by decide) (fun c5 => ?_) (fun c5 => ?_)
      · skip
        have c5 := b2i_0 c5
        refine lv_iconst (v := -1) hx hb dX7_leftOf_36 rfl ?_
        exact ret_roi hx hb hr hlk (by first | (simp [yLeft, Int32.not_le, Int32.not_lt, c1, c4, c5]; done) | (clear hx hb hr hlk hnm hml hown hts hC hl; simp_all [yLeft, Int32.not_le, Int32.not_lt])) dX7_leftOf_37
      · skip
        have c5 := b2i_1 c5
        refine lv_aload_n hx hb dX7_leftOf_26 rfl (lv_at hl 0 rfl) ?_
        refine lv_iload_n hx hb dX7_leftOf_27 rfl (lv_at hl 1 rfl) ?_
        refine ro_i (run_V (As := [.int (i)]) (rest := []) hC.1 ckX7_isBroken (kX7_isBroken l g a r i h2) (gw_in m_542 rfl) (fb_ro _ _ _) (va_recv hK.1 hP (q0 := 0) rfl rfl) (fun U hU hW => ⟨by rw [hU]; exact hP, kK_warm hW hK⟩) ⟨rfl, rfl, Nat.le_of_ble_eq_true rfl, Nat.le_of_ble_eq_true rfl⟩ rfl hl.1 rfl (Nat.le_of_ble_eq_true rfl) dX7_leftOf_28 ⟨Nat.le_of_ble_eq_true rfl, Nat.le_of_ble_eq_true rfl⟩) ?_
        refine lv_if_eq (tgt := 36) hx hb dX7_leftOf_31 (by decide) (fun c6 => ?_) (fun c6 => ?_)
        · skip
          have c6 := b2i_0 c6
          refine lv_iconst (v := -1) hx hb dX7_leftOf_36 rfl ?_
          exact ret_roi hx hb hr hlk (by first | (simp [yLeft, Int32.not_le, Int32.not_lt, c1, c4, c5, c6]; done) | (clear hx hb hr hlk hnm hml hown hts hC hl; simp_all [yLeft, Int32.not_le, Int32.not_lt])) dX7_leftOf_37
        · skip
          have c6 := b2i_1 c6
          refine lv_iload_n hx hb dX7_leftOf_34 rfl (lv_at hl 2 rfl) ?_
          exact ret_roi hx hb hr hlk (by first | (simp [yLeft, Int32.not_le, Int32.not_lt, c1, c4, c5, c6]; done) | (clear hx hb hr hlk hnm hml hown hts hC hl; simp_all [yLeft, Int32.not_le, Int32.not_lt])) dX7_leftOf_35
    · skip
      have c4 := b2i_1 c4
      refine lv_iload_n hx hb dX7_leftOf_16 rfl (lv_at hl 1 rfl) ?_
      exact ret_roi hx hb hr hlk (by first | (simp [yLeft, Int32.not_le, Int32.not_lt, c1, c4]; done) | (clear hx hb hr hlk hnm hml hown hts hC hl; simp_all [yLeft, Int32.not_le, Int32.not_lt])) dX7_leftOf_17
set_option maxHeartbeats 4000000 in
set_option maxRecDepth 100000 in
theorem kX7_strike (l : Launch) (g : gG) (a : Nat → Nat) (r : Nat → Int32) (i j : Int32) (hw : Wf r) : Met l yX7_strike (.code yX7_strike cX7_strike 4 (some .boolean) :: gw) (rmN 3) (va_Pc [.ref (a 0), .int (i), .int (j)] (rwPre g (yW g a r ++ []))) (rwQi g (yW g a r ++ []) (yW g a (if yCan r i j = true then stk r i j else r) ++ []) (b2i (yCan r i j))) 0 0 (dm (yW g a r ++ [])) := by
  refine met_start (by decide) (Nat.le_of_ble_eq_true rfl) ?_
  intro pp ee ss mm bl mt cd hC hpre ls hl
  obtain ⟨⟨hx, hb, hml, hown, hts⟩, hr, hlk, hnm⟩ := id hC
  have hl : lv_has ls 4 [(0, .ref (a 0)), (1, .int (i)), (2, .int (j))] := hl
  obtain ⟨hP, hK, hD⟩ := hpre
  have hS : va_S (dm (yW g a r ++ [])) ss.heap ss.heap [] := va_S.rf
  have hD := vD_self hD
  refine lv_aload_n hx hb dX7_strike_0 rfl (lv_at hl 0 rfl) ?_
  refine lv_iload_n hx hb dX7_strike_1 rfl (lv_at hl 1 rfl) ?_
  refine lv_iload_n hx hb dX7_strike_2 rfl (lv_at hl 2 rfl) ?_
  refine ro_i (run_V (As := [.int (i), .int (j)]) (rest := []) hC.1 ckX7_canStrike (kX7_canStrike l g a r i j hw.n6) (gw_in m_510 rfl) (fb_ro _ _ _) (va_recv hK.1 (kP_app.mp hP).1 (q0 := 0) rfl rfl) (fun U hU hW => ⟨by rw [hU]; exact (kP_app.mp hP).1, kK_warm hW hK⟩) ⟨rfl, rfl, Nat.le_of_ble_eq_true rfl, Nat.le_of_ble_eq_true rfl⟩ rfl hl.1 rfl (Nat.le_of_ble_eq_true rfl) dX7_strike_3 ⟨Nat.le_of_ble_eq_true rfl, Nat.le_of_ble_eq_true rfl⟩) ?_
  refine lv_if_ne (tgt := 11) hx hb dX7_strike_6 (by decide) (fun c1 => ?_) (fun c1 => ?_)
  · skip
    have c1 := b2i_1 c1
    refine lv_aload_n hx hb dX7_strike_11 rfl (lv_at hl 0 rfl) ?_
    refine lv_iload_n hx hb dX7_strike_12 rfl (lv_at hl 1 rfl) ?_
    refine ro_i (run_V (As := [.int (i)]) (rest := []) hC.1 ckX7_nextForce (kX7_nextForce l g a r i hw) (gw_in m_514 rfl) (fb_ro _ _ _) (va_recv hK.1 (kP_app.mp hP).1 (q0 := 0) rfl rfl) (fun U hU hW => ⟨by rw [hU]; exact (kP_app.mp hP).1, kK_warm hW hK⟩) ⟨rfl, rfl, Nat.le_of_ble_eq_true rfl, Nat.le_of_ble_eq_true rfl⟩ rfl hl.1 rfl (Nat.le_of_ble_eq_true rfl) dX7_strike_13 ⟨Nat.le_of_ble_eq_true rfl, Nat.le_of_ble_eq_true rfl⟩) ?_
    refine top_i (x := if yNut r i = true then fo r i (yNext r) else 0) (y := fo r i (yNext r)) (if_pos (yCan_nut c1).1) ?_
    refine lv_istore_n (lv' := [(3, .int (fo r i (yNext r))), (0, .ref (a 0)), (1, .int (i)), (2, .int (j))]) hx hb dX7_strike_16 rfl hl (by decide) rfl (fun ls hl => ?_)
    refine lv_aload_n hx hb dX7_strike_17 rfl (lv_at hl 1 rfl) ?_
    refine lv_iconst (v := 1) hx hb dX7_strike_18 rfl ?_
    refine rw_v (run_V (As := [.int (1)]) (rest := []) hC.1 ckX7_pass (kX7_pass l g a r 1) (gw_in m_530 rfl) (fb_rw _ _ _) (va_recv hK.1 (kP_app.mp hP).1 (q0 := 0) rfl rfl) (fun U hU hW => ⟨by rw [hU]; exact (kP_app.mpr ⟨(kP_app.mp hP).1, kP_nil⟩), kK_warm hW hK, vD_sub (sbA _ (sb0 _)) hD⟩) ⟨rfl, rfl, Nat.le_of_ble_eq_true rfl, Nat.le_of_ble_eq_true rfl⟩ rfl hl.1 rfl (Nat.le_of_ble_eq_true rfl) dX7_strike_19 ⟨Nat.le_of_ble_eq_true rfl, Nat.le_of_ble_eq_true rfl⟩) (adr_app yW_adr rfl) (asc1 _ _) (ww' := yW g a (upd r 0 (if r 0 + 1 < 9999 then r 0 + 1 else 9999)) ++ []) (asc1 _ _) hP hD hS (fun H locs hP hD hS => ?_)
    rw [show (upd r 0 (if r 0 + 1 < 9999 then r 0 + 1 else 9999)) = (upd r 0 (yNext r)) from by rw [yNext_eq hw.num]] at hP hD
    refine lv_aload_n hx hb dX7_strike_22 rfl (lv_at hl 1 rfl) ?_
    refine lv_iload_n hx hb dX7_strike_23 rfl (lv_at hl 3 rfl) ?_
    refine lv_iload_n hx hb dX7_strike_24 rfl (lv_at hl 0 rfl) ?_
    refine rw_v (run_V (As := [.int (j), .int (fo r i (yNext r))]) (rest := []) hC.1 ckX7_crackBy (kX7_crackBy l g a (upd r 0 (yNext r)) j (fo r i (yNext r)) (Wf_0 hw (yNext_bd hw)) (fo_bd hw (yCan_nut c1).1 (yNext_bd hw))) (gw_in m_534 rfl) (fb_rw _ _ _) (va_recv hK.1 (kP_app.mp hP).1 (q0 := 0) rfl rfl) (fun U hU hW => ⟨by rw [hU]; exact (kP_app.mpr ⟨(kP_app.mp hP).1, kP_nil⟩), kK_warm hW hK, vD_sub (sbA _ (sb0 _)) hD⟩) ⟨rfl, rfl, Nat.le_of_ble_eq_true rfl, Nat.le_of_ble_eq_true rfl⟩ rfl hl.1 rfl (Nat.le_of_ble_eq_true rfl) dX7_strike_25 ⟨Nat.le_of_ble_eq_true rfl, Nat.le_of_ble_eq_true rfl⟩) (adr_app yW_adr rfl) (asc1 _ _) (ww' := yW g a (if yNut (upd r 0 (yNext r)) j = true then upd (upd r 0 (yNext r)) (33 + cl j) (crkd (upd r 0 (yNext r)) j (fo r i (yNext r)) ((upd r 0 (yNext r)) 0)) else (upd r 0 (yNext r))) ++ []) (asc1 _ _) hP hD hS (fun H locs hP hD hS => ?_)
    rw [show (if yNut (upd r 0 (yNext r)) j = true then upd (upd r 0 (yNext r)) (33 + cl j) (crkd (upd r 0 (yNext r)) j (fo r i (yNext r)) ((upd r 0 (yNext r)) 0)) else (upd r 0 (yNext r))) = (upd (upd r 0 (yNext r)) (33 + cl j) (crkd r j (fo r i (yNext r)) (yNext r))) from stk_s1 c1] at hP hD
    refine lv_aload_n hx hb dX7_strike_28 rfl (lv_at hl 1 rfl) ?_
    refine lv_iload_n hx hb dX7_strike_29 rfl (lv_at hl 2 rfl) ?_
    refine lv_iload_n hx hb dX7_strike_30 rfl (lv_at hl 0 rfl) ?_
    refine lv_iconst (v := 2) hx hb dX7_strike_31 rfl ?_
    refine lv_idiv hx hb dX7_strike_32 (by decide) ?_
    refine rw_v (run_V (As := [.int (i), .int ((fo r i (yNext r)) / 2)]) (rest := []) hC.1 ckX7_crackBy (kX7_crackBy l g a (upd (upd r 0 (yNext r)) (33 + cl j) (crkd r j (fo r i (yNext r)) (yNext r))) i ((fo r i (yNext r)) / 2) (Wf_cr (Wf_0 hw (yNext_bd hw)) (yNut_cl hw (yCan_nut c1).2) (crkd_bd hw (yCan_nut c1).2 (fo_bd hw (yCan_nut c1).1 (yNext_bd hw)))) (half_bd (fo_bd hw (yCan_nut c1).1 (yNext_bd hw)))) (gw_in m_534 rfl) (fb_rw _ _ _) (va_recv hK.1 (kP_app.mp hP).1 (q0 := 0) rfl rfl) (fun U hU hW => ⟨by rw [hU]; exact (kP_app.mpr ⟨(kP_app.mp hP).1, kP_nil⟩), kK_warm hW hK, vD_sub (sbA _ (sb0 _)) hD⟩) ⟨rfl, rfl, Nat.le_of_ble_eq_true rfl, Nat.le_of_ble_eq_true rfl⟩ rfl hl.1 rfl (Nat.le_of_ble_eq_true rfl) dX7_strike_33 ⟨Nat.le_of_ble_eq_true rfl, Nat.le_of_ble_eq_true rfl⟩) (adr_app yW_adr rfl) (asc1 _ _) (ww' := yW g a (if yNut (upd (upd r 0 (yNext r)) (33 + cl j) (crkd r j (fo r i (yNext r)) (yNext r))) i = true then upd (upd (upd r 0 (yNext r)) (33 + cl j) (crkd r j (fo r i (yNext r)) (yNext r))) (33 + cl i) (crkd (upd (upd r 0 (yNext r)) (33 + cl j) (crkd r j (fo r i (yNext r)) (yNext r))) i ((fo r i (yNext r)) / 2) ((upd (upd r 0 (yNext r)) (33 + cl j) (crkd r j (fo r i (yNext r)) (yNext r))) 0)) else (upd (upd r 0 (yNext r)) (33 + cl j) (crkd r j (fo r i (yNext r)) (yNext r)))) ++ []) (asc1 _ _) hP hD hS (fun H locs hP hD hS => ?_)
    rw [show (if yNut (upd (upd r 0 (yNext r)) (33 + cl j) (crkd r j (fo r i (yNext r)) (yNext r))) i = true then upd (upd (upd r 0 (yNext r)) (33 + cl j) (crkd r j (fo r i (yNext r)) (yNext r))) (33 + cl i) (crkd (upd (upd r 0 (yNext r)) (33 + cl j) (crkd r j (fo r i (yNext r)) (yNext r))) i ((fo r i (yNext r)) / 2) ((upd (upd r 0 (yNext r)) (33 + cl j) (crkd r j (fo r i (yNext r)) (yNext r))) 0)) else (upd (upd r 0 (yNext r)) (33 + cl j) (crkd r j (fo r i (yNext r)) (yNext r)))) = (stk3 r i j) from stk_s2 hw c1] at hP hD
    have hw3 := Wf_stk3 hw (yCan_nut c1).1 (yCan_nut c1).2
    have hci := yNut_cl hw (yCan_nut c1).1
    have hcj := yNut_cl hw (yCan_nut c1).2
    have hni : yNut (stk3 r i j) i = true := by rw [yNut_2 stk3_2]; exact (yCan_nut c1).1
    have hnj : yNut (stk3 r i j) j = true := by rw [yNut_2 stk3_2]; exact (yCan_nut c1).2
    refine lv_aload_n hx hb dX7_strike_36 rfl (lv_at hl 1 rfl) ?_
    refine lv_iload_n hx hb dX7_strike_37 rfl (lv_at hl 3 rfl) ?_
    refine ro_i (run_V (As := [.int (j)]) (rest := []) hC.1 ckX7_isBroken (kX7_isBroken l g a (stk3 r i j) j (Wf.n6 hw3)) (gw_in m_542 rfl) (fb_ro _ _ _) (va_recv hK.1 (kP_app.mp hP).1 (q0 := 0) rfl rfl) (fun U hU hW => ⟨by rw [hU]; exact (kP_app.mp hP).1, kK_warm hW hK⟩) ⟨rfl, rfl, Nat.le_of_ble_eq_true rfl, Nat.le_of_ble_eq_true rfl⟩ rfl hl.1 rfl (Nat.le_of_ble_eq_true rfl) dX7_strike_38 ⟨Nat.le_of_ble_eq_true rfl, Nat.le_of_ble_eq_true rfl⟩) ?_
    refine lv_if_eq (tgt := 77) hx hb dX7_strike_41 (by decide) (fun c2 => ?_) (fun c2 => ?_)
    · skip
      have c2 := b2i_0 c2
      have c2 := yBrk_f hnj c2
      refine lv_aload_n hx hb dX7_strike_77 rfl (lv_at hl 1 rfl) ?_
      refine lv_iload_n hx hb dX7_strike_78 rfl (lv_at hl 2 rfl) ?_
      refine ro_i (run_V (As := [.int (i)]) (rest := []) hC.1 ckX7_isBroken (kX7_isBroken l g a (stk3 r i j) i (Wf.n6 hw3)) (gw_in m_542 rfl) (fb_ro _ _ _) (va_recv hK.1 (kP_app.mp hP).1 (q0 := 0) rfl rfl) (fun U hU hW => ⟨by rw [hU]; exact (kP_app.mp hP).1, kK_warm hW hK⟩) ⟨rfl, rfl, Nat.le_of_ble_eq_true rfl, Nat.le_of_ble_eq_true rfl⟩ rfl hl.1 rfl (Nat.le_of_ble_eq_true rfl) dX7_strike_79 ⟨Nat.le_of_ble_eq_true rfl, Nat.le_of_ble_eq_true rfl⟩) ?_
      refine lv_if_eq (tgt := 118) hx hb dX7_strike_82 (by decide) (fun c3 => ?_) (fun c3 => ?_)
      · skip
        have c3 := b2i_0 c3
        have c3 := yBrk_f hni c3
        refine lv_iconst (v := 1) hx hb dX7_strike_118 rfl ?_
        exact ret_rwz hx hb hr hlk rfl (by first | (rw [c1]; rfl) | (rw [b2i_f c1])) (by rw [if_pos c1, show stk r i j = (stk3 r i j) from by unfold stk; rw [if_neg c3, if_neg c2]]; exact hP) hS dX7_strike_119
      · skip
        have c3 := b2i_1 c3
        have c3 := yBrk_t c3
        refine lv_aload_n hx hb dX7_strike_85 rfl (lv_at hl 1 rfl) ?_
        refine lv_iload_n hx hb dX7_strike_86 rfl (lv_at hl 3 rfl) ?_
        refine ro_i (run_V (As := [.int (j)]) (rest := []) hC.1 ckX7_isWhole (kX7_isWhole l g a (stk3 r i j) j (Wf.n6 hw3)) (gw_in m_543 rfl) (fb_ro _ _ _) (va_recv hK.1 (kP_app.mp hP).1 (q0 := 0) rfl rfl) (fun U hU hW => ⟨by rw [hU]; exact (kP_app.mp hP).1, kK_warm hW hK⟩) ⟨rfl, rfl, Nat.le_of_ble_eq_true rfl, Nat.le_of_ble_eq_true rfl⟩ rfl hl.1 rfl (Nat.le_of_ble_eq_true rfl) dX7_strike_87 ⟨Nat.le_of_ble_eq_true rfl, Nat.le_of_ble_eq_true rfl⟩) ?_
        refine lv_if_eq (tgt := 118) hx hb dX7_strike_90 (by decide) (fun c4 => ?_) (fun c4 => ?_)
        · skip
          have c4 := b2i_0 c4
          have c4 := yWhl_f hnj c4
          exact absurd c4 c2
        · skip
          have c4 := b2i_1 c4
          have c4 := yWhl_t c4
          refine lv_aload_n hx hb dX7_strike_93 rfl (lv_at hl 1 rfl) ?_
          refine kget hC.1 hK (kP_app.mp hP).1 0 rfl rfl in_7 10 (by decide) (gw_in m_117 rfl) rfl dX7_strike_94 ?_
          refine lv_iload_n hx hb dX7_strike_97 rfl (lv_at hl 3 rfl) ?_
          refine lv_sipush (v := 999) hx hb dX7_strike_98 rfl ?_
          refine lv_aload_n hx hb dX7_strike_101 rfl (lv_at hl 1 rfl) ?_
          refine kget hC.1 hK (kP_app.mp hP).1 0 rfl rfl in_7 10 (by decide) (gw_in m_117 rfl) rfl dX7_strike_102 ?_
          refine lv_iload_n hx hb dX7_strike_105 rfl (lv_at hl 3 rfl) ?_
          refine kald (v := (stk3 r i j) (39 + cl j)) hC.1 hK (kP_app.mp hP).1 8 rfl (yCan_in2 c1 hw.n6) rfl dX7_strike_106 ?_
          refine lv_aload_n hx hb dX7_strike_107 rfl (lv_at hl 1 rfl) ?_
          refine kget hC.1 hK (kP_app.mp hP).1 0 rfl rfl in_7 10 (by decide) (gw_in m_117 rfl) rfl dX7_strike_108 ?_
          refine lv_iload_n hx hb dX7_strike_111 rfl (lv_at hl 2 rfl) ?_
          refine kald (v := (stk3 r i j) (39 + cl i)) hC.1 hK (kP_app.mp hP).1 8 rfl (yCan_in1 c1 hw.n6) rfl dX7_strike_112 ?_
          refine lv_iadd hx hb dX7_strike_113 ?_
          refine va_mmin hx hb (hml.trans hl.1.symm) hown (hts _ (gw_in m_523 rfl)) (hts _ (gw_in m_164 rfl)) (hts _ (gw_in m_67 rfl)) (hts _ (gw_in m_165 rfl)) (Nat.le_of_ble_eq_true rfl) (Nat.le_of_ble_eq_true rfl) (Nat.le_of_ble_eq_true rfl) (Nat.le_of_ble_eq_true rfl) dX7_strike_114 ?_
          refine top_i (x := if ((stk3 r i j) (39 + cl j)) + ((stk3 r i j) (39 + cl i)) < 999 then ((stk3 r i j) (39 + cl j)) + ((stk3 r i j) (39 + cl i)) else 999) (y := cap999 (((stk3 r i j) (39 + cl j)) + ((stk3 r i j) (39 + cl i)))) min_eq ?_
          refine kast (B' := yW g a (upd (stk3 r i j) (39 + cl j) (cap999 (((stk3 r i j) (39 + cl j)) + ((stk3 r i j) (39 + cl i)))))) hC.1 hK hP hD hS 8 rfl (yCan_in2 c1 hw.n6) (yA8 (yCan_in2 c1 hw.n6)) yW_adr dX7_strike_117 (fun H locs hP hD hS => ?_)
          rw [show (upd (stk3 r i j) (39 + cl j) (cap999 (((stk3 r i j) (39 + cl j)) + ((stk3 r i j) (39 + cl i))))) = (scF (stk3 r i j) j i) from rfl] at hP hD
          refine lv_iconst (v := 1) hx hb dX7_strike_118 rfl ?_
          exact ret_rwz hx hb hr hlk rfl (by first | (rw [c1]; rfl) | (rw [b2i_f c1])) (by rw [if_pos c1, show stk r i j = (scF (stk3 r i j) j i) from by unfold stk; rw [if_pos c3, if_neg c2]]; exact hP) hS dX7_strike_119
    · skip
      have c2 := b2i_1 c2
      have c2 := yBrk_t c2
      refine lv_aload_n hx hb dX7_strike_44 rfl (lv_at hl 1 rfl) ?_
      refine lv_iload_n hx hb dX7_strike_45 rfl (lv_at hl 2 rfl) ?_
      refine ro_i (run_V (As := [.int (i)]) (rest := []) hC.1 ckX7_isWhole (kX7_isWhole l g a (stk3 r i j) i (Wf.n6 hw3)) (gw_in m_543 rfl) (fb_ro _ _ _) (va_recv hK.1 (kP_app.mp hP).1 (q0 := 0) rfl rfl) (fun U hU hW => ⟨by rw [hU]; exact (kP_app.mp hP).1, kK_warm hW hK⟩) ⟨rfl, rfl, Nat.le_of_ble_eq_true rfl, Nat.le_of_ble_eq_true rfl⟩ rfl hl.1 rfl (Nat.le_of_ble_eq_true rfl) dX7_strike_46 ⟨Nat.le_of_ble_eq_true rfl, Nat.le_of_ble_eq_true rfl⟩) ?_
      refine lv_if_eq (tgt := 77) hx hb dX7_strike_49 (by decide) (fun c5 => ?_) (fun c5 => ?_)
      · skip
        have c5 := b2i_0 c5
        have c5 := yWhl_f hni c5
        refine lv_aload_n hx hb dX7_strike_77 rfl (lv_at hl 1 rfl) ?_
        refine lv_iload_n hx hb dX7_strike_78 rfl (lv_at hl 2 rfl) ?_
        refine ro_i (run_V (As := [.int (i)]) (rest := []) hC.1 ckX7_isBroken (kX7_isBroken l g a (stk3 r i j) i (Wf.n6 hw3)) (gw_in m_542 rfl) (fb_ro _ _ _) (va_recv hK.1 (kP_app.mp hP).1 (q0 := 0) rfl rfl) (fun U hU hW => ⟨by rw [hU]; exact (kP_app.mp hP).1, kK_warm hW hK⟩) ⟨rfl, rfl, Nat.le_of_ble_eq_true rfl, Nat.le_of_ble_eq_true rfl⟩ rfl hl.1 rfl (Nat.le_of_ble_eq_true rfl) dX7_strike_79 ⟨Nat.le_of_ble_eq_true rfl, Nat.le_of_ble_eq_true rfl⟩) ?_
        refine lv_if_eq (tgt := 118) hx hb dX7_strike_82 (by decide) (fun c6 => ?_) (fun c6 => ?_)
        · skip
          have c6 := b2i_0 c6
          have c6 := yBrk_f hni c6
          exact absurd c5 c6
        · skip
          have c6 := b2i_1 c6
          have c6 := yBrk_t c6
          refine lv_aload_n hx hb dX7_strike_85 rfl (lv_at hl 1 rfl) ?_
          refine lv_iload_n hx hb dX7_strike_86 rfl (lv_at hl 3 rfl) ?_
          refine ro_i (run_V (As := [.int (j)]) (rest := []) hC.1 ckX7_isWhole (kX7_isWhole l g a (stk3 r i j) j (Wf.n6 hw3)) (gw_in m_543 rfl) (fb_ro _ _ _) (va_recv hK.1 (kP_app.mp hP).1 (q0 := 0) rfl rfl) (fun U hU hW => ⟨by rw [hU]; exact (kP_app.mp hP).1, kK_warm hW hK⟩) ⟨rfl, rfl, Nat.le_of_ble_eq_true rfl, Nat.le_of_ble_eq_true rfl⟩ rfl hl.1 rfl (Nat.le_of_ble_eq_true rfl) dX7_strike_87 ⟨Nat.le_of_ble_eq_true rfl, Nat.le_of_ble_eq_true rfl⟩) ?_
          refine lv_if_eq (tgt := 118) hx hb dX7_strike_90 (by decide) (fun c7 => ?_) (fun c7 => ?_)
          · skip
            have c7 := b2i_0 c7
            have c7 := yWhl_f hnj c7
            refine lv_iconst (v := 1) hx hb dX7_strike_118 rfl ?_
            exact ret_rwz hx hb hr hlk rfl (by first | (rw [c1]; rfl) | (rw [b2i_f c1])) (by rw [if_pos c1, show stk r i j = (stk3 r i j) from by unfold stk; rw [if_pos c5, if_pos c2]]; exact hP) hS dX7_strike_119
          · skip
            have c7 := b2i_1 c7
            have c7 := yWhl_t c7
            exact absurd c2 c7
      · skip
        have c5 := b2i_1 c5
        have c5 := yWhl_t c5
        refine lv_aload_n hx hb dX7_strike_52 rfl (lv_at hl 1 rfl) ?_
        refine kget hC.1 hK (kP_app.mp hP).1 0 rfl rfl in_7 10 (by decide) (gw_in m_117 rfl) rfl dX7_strike_53 ?_
        refine lv_iload_n hx hb dX7_strike_56 rfl (lv_at hl 2 rfl) ?_
        refine lv_sipush (v := 999) hx hb dX7_strike_57 rfl ?_
        refine lv_aload_n hx hb dX7_strike_60 rfl (lv_at hl 1 rfl) ?_
        refine kget hC.1 hK (kP_app.mp hP).1 0 rfl rfl in_7 10 (by decide) (gw_in m_117 rfl) rfl dX7_strike_61 ?_
        refine lv_iload_n hx hb dX7_strike_64 rfl (lv_at hl 2 rfl) ?_
        refine kald (v := (stk3 r i j) (39 + cl i)) hC.1 hK (kP_app.mp hP).1 8 rfl (yCan_in1 c1 hw.n6) rfl dX7_strike_65 ?_
        refine lv_aload_n hx hb dX7_strike_66 rfl (lv_at hl 1 rfl) ?_
        refine kget hC.1 hK (kP_app.mp hP).1 0 rfl rfl in_7 10 (by decide) (gw_in m_117 rfl) rfl dX7_strike_67 ?_
        refine lv_iload_n hx hb dX7_strike_70 rfl (lv_at hl 3 rfl) ?_
        refine kald (v := (stk3 r i j) (39 + cl j)) hC.1 hK (kP_app.mp hP).1 8 rfl (yCan_in2 c1 hw.n6) rfl dX7_strike_71 ?_
        refine lv_iadd hx hb dX7_strike_72 ?_
        refine va_mmin hx hb (hml.trans hl.1.symm) hown (hts _ (gw_in m_523 rfl)) (hts _ (gw_in m_164 rfl)) (hts _ (gw_in m_67 rfl)) (hts _ (gw_in m_165 rfl)) (Nat.le_of_ble_eq_true rfl) (Nat.le_of_ble_eq_true rfl) (Nat.le_of_ble_eq_true rfl) (Nat.le_of_ble_eq_true rfl) dX7_strike_73 ?_
        refine top_i (x := if ((stk3 r i j) (39 + cl i)) + ((stk3 r i j) (39 + cl j)) < 999 then ((stk3 r i j) (39 + cl i)) + ((stk3 r i j) (39 + cl j)) else 999) (y := cap999 (stk3 r i j (39 + cl i) + stk3 r i j (39 + cl j))) min_eq ?_
        refine kast (B' := yW g a (upd (stk3 r i j) (39 + cl i) (cap999 (stk3 r i j (39 + cl i) + stk3 r i j (39 + cl j))))) hC.1 hK hP hD hS 8 rfl (yCan_in1 c1 hw.n6) (yA8 (yCan_in1 c1 hw.n6)) yW_adr dX7_strike_76 (fun H locs hP hD hS => ?_)
        rw [show (upd (stk3 r i j) (39 + cl i) (cap999 (stk3 r i j (39 + cl i) + stk3 r i j (39 + cl j)))) = (scF (stk3 r i j) i j) from rfl] at hP hD
        refine lv_aload_n hx hb dX7_strike_77 rfl (lv_at hl 1 rfl) ?_
        refine lv_iload_n hx hb dX7_strike_78 rfl (lv_at hl 2 rfl) ?_
        refine ro_i (run_V (As := [.int (i)]) (rest := []) hC.1 ckX7_isBroken (kX7_isBroken l g a (scF (stk3 r i j) i j) i (by rw [scF_lo (by omega)]; exact Wf.n6 hw3)) (gw_in m_542 rfl) (fb_ro _ _ _) (va_recv hK.1 (kP_app.mp hP).1 (q0 := 0) rfl rfl) (fun U hU hW => ⟨by rw [hU]; exact (kP_app.mp hP).1, kK_warm hW hK⟩) ⟨rfl, rfl, Nat.le_of_ble_eq_true rfl, Nat.le_of_ble_eq_true rfl⟩ rfl hl.1 rfl (Nat.le_of_ble_eq_true rfl) dX7_strike_79 ⟨Nat.le_of_ble_eq_true rfl, Nat.le_of_ble_eq_true rfl⟩) ?_
        refine lv_if_eq (tgt := 118) hx hb dX7_strike_82 (by decide) (fun c8 => ?_) (fun c8 => ?_)
        · skip
          have c8 := b2i_0 c8
          have c8 := yBrk_f (by rw [yNut_2 (r := stk3 r i j) (scF_lo (by omega))]; exact hni) c8
          rw [scF_lo (by omega)] at c8
          refine lv_iconst (v := 1) hx hb dX7_strike_118 rfl ?_
          exact ret_rwz hx hb hr hlk rfl (by first | (rw [c1]; rfl) | (rw [b2i_f c1])) (by rw [if_pos c1, show stk r i j = (scF (stk3 r i j) i j) from by unfold stk; rw [if_neg c5, if_pos c2]]; exact hP) hS dX7_strike_119
        · skip
          have c8 := b2i_1 c8
          have c8 := yBrk_t c8
          rw [scF_lo (by omega)] at c8
          exact absurd c8 c5
  · skip
    have c1 := b2i_0 c1
    refine lv_iconst (v := 0) hx hb dX7_strike_9 rfl ?_
    exact ret_rwz hx hb hr hlk rfl (by first | (rw [c1]; rfl) | (rw [b2i_f c1])) (by simpa [c1] using hP) hS dX7_strike_10
