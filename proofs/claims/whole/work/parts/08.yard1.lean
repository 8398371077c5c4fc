theorem ckX7_isWhole : ckV yX7_isWhole cX7_isWhole 2 (some .boolean) 1 := ⟨(gw_in m_546 rfl), (gw_in m_64 rfl), ⟨(gw_in m_544 rfl), (gw_in m_545 rfl)⟩, by decide +kernel, by decide +kernel, by decide +kernel⟩
theorem ckX7_isWholeOf : ckV yX7_isWholeOf cX7_isWholeOf 3 (some .boolean) 2 := ⟨(gw_in m_634 rfl), (gw_in m_64 rfl), ⟨(gw_in m_632 rfl), (gw_in m_633 rfl)⟩, by decide +kernel, by decide +kernel, by decide +kernel⟩
theorem ckX7_canStrike : ckV yX7_canStrike cX7_canStrike 3 (some .boolean) 2 := ⟨(gw_in m_513 rfl), (gw_in m_64 rfl), ⟨(gw_in m_511 rfl), (gw_in m_512 rfl)⟩, by decide +kernel, by decide +kernel, by decide +kernel⟩
theorem ckX7_nextNumber : ckV yX7_nextNumber cX7_nextNumber 1 (some .int) 0 := ⟨(gw_in m_522 rfl), (gw_in m_64 rfl), ⟨(gw_in m_520 rfl), (gw_in m_521 rfl)⟩, by decide +kernel, by decide +kernel, by decide +kernel⟩
theorem ckX7_restart : ckV yX7_restart cX7_restart 2 none 1 := ⟨(gw_in m_331 rfl), (gw_in m_64 rfl), ⟨(gw_in m_329 rfl), (gw_in m_330 rfl)⟩, by decide +kernel, by decide +kernel, by decide +kernel⟩
theorem ckX7_pass : ckV yX7_pass cX7_pass 2 none 1 := ⟨(gw_in m_533 rfl), (gw_in m_64 rfl), ⟨(gw_in m_531 rfl), (gw_in m_532 rfl)⟩, by decide +kernel, by decide +kernel, by decide +kernel⟩
theorem ckX7_handOver : ckV yX7_handOver cX7_handOver 3 none 2 := ⟨(gw_in m_610 rfl), (gw_in m_64 rfl), ⟨(gw_in m_608 rfl), (gw_in m_609 rfl)⟩, by decide +kernel, by decide +kernel, by decide +kernel⟩
set_option maxHeartbeats 4000000 in
set_option maxRecDepth 100000 in
theorem kX7_isWhole (l : Launch) (g : gG) (a : Nat → Nat) (r : Nat → Int32) (i : Int32) (h2 : (r 2).toInt ≤ 6) : Met l yX7_isWhole (.code yX7_isWhole cX7_isWhole 2 (some .boolean) :: gw) (rmN 1) (va_Pc [.ref (a 0), .int (i)] (roPre g (yW g a r))) (vp_Si (fun v => v = (b2i (yWhl r i)))) 0 0 (fun _ => False) := by
  refine met_start (by decide) (Nat.le_of_ble_eq_true rfl) ?_
  intro pp ee ss mm bl mt cd hC hpre ls hl
  obtain ⟨⟨hx, hb, hml, hown, hts⟩, hr, hlk, hnm⟩ := id hC
  have hl : lv_has ls 2 [(0, .ref (a 0)), (1, .int (i))] := hl
  obtain ⟨hP, hK⟩ := hpre
  refine lv_aload_n hx hb dX7_isWhole_0 rfl (lv_at hl 0 rfl) ?_
  refine lv_iload_n hx hb dX7_isWhole_1 rfl (lv_at hl 1 rfl) ?_
  refine ro_i (run_V (As := [.int (i)]) (rest := []) hC.1 ckX7_isNut (kX7_isNut l g a r i) (gw_in m_502 rfl) (fb_ro _ _ _) (va_recv hK.1 hP (q0 := 0) rfl rfl) (fun U hU hW => ⟨by rw [hU]; exact hP, kK_warm hW hK⟩) ⟨rfl, rfl, Nat.le_of_ble_eq_true rfl, Nat.le_of_ble_eq_true rfl⟩ rfl hl.1 rfl (Nat.le_of_ble_eq_true rfl) dX7_isWhole_2 ⟨Nat.le_of_ble_eq_true rfl, Nat.le_of_ble_eq_true rfl⟩) ?_
  refine lv_if_eq (tgt := 23) hx hb dX7_isWhole_5 (by decide) (fun c1 => ?_) (fun c1 => ?_)
  · skip
    have c1 := b2i_0 c1
    refine lv_iconst (v := 0) hx hb dX7_isWhole_23 rfl ?_
    exact ret_roz hx hb hr hlk rfl (by first | (simp [yWhl, b2i, Int32.not_le, Int32.not_lt, c1]; done) | (clear hx hb hr hlk hnm hml hown hts hC hl; simp_all [yWhl, b2i, Int32.not_le, Int32.not_lt])) dX7_isWhole_24
  · skip
    have c1 := b2i_1 c1
    refine lv_aload_n hx hb dX7_isWhole_8 rfl (lv_at hl 0 rfl) ?_
    refine kget hC.1 hK hP 0 rfl rfl in_7 9 (by decide) (gw_in m_115 rfl) rfl dX7_isWhole_9 ?_
    refine lv_iload_n hx hb dX7_isWhole_12 rfl (lv_at hl 1 rfl) ?_
    refine kald (v := r (33 + cl i)) hC.1 hK hP 7 rfl (yNut_in c1 h2) rfl dX7_isWhole_13 ?_
    refine lv_bipush (v := 10) hx hb dX7_isWhole_14 rfl ?_
    refine lv_icmp_ge (tgt := 23) hx hb dX7_isWhole_16 (by decide) (fun c2 => ?_) (fun c2 => ?_)
    · skip
      have c2' := Int32.not_lt.mpr c2
      refine lv_iconst (v := 0) hx hb dX7_isWhole_23 rfl ?_
      exact ret_roz hx hb hr hlk rfl (by first | (simp [yWhl, b2i, Int32.not_le, Int32.not_lt, c1, c2, c2']; done) | (clear hx hb hr hlk hnm hml hown hts hC hl; simp_all [yWhl, b2i, Int32.not_le, Int32.not_lt])) dX7_isWhole_24
    · skip
      have c2' := Int32.not_le.mp c2
      refine lv_iconst (v := 1) hx hb dX7_isWhole_19 rfl ?_
      refine lv_goto (tgt := 24) hx hb dX7_isWhole_20 (by decide) ?_
      exact ret_roz hx hb hr hlk rfl (by first | (simp [yWhl, b2i, Int32.not_le, Int32.not_lt, c1, c2, c2']; done) | (clear hx hb hr hlk hnm hml hown hts hC hl; simp_all [yWhl, b2i, Int32.not_le, Int32.not_lt])) dX7_isWhole_24
set_option maxHeartbeats 4000000 in
set_option maxRecDepth 100000 in
theorem kX7_isWholeOf (l : Launch) (g : gG) (a : Nat → Nat) (r : Nat → Int32) (i q : Int32) (h2 : (r 2).toInt ≤ 6) : Met l yX7_isWholeOf (.code yX7_isWholeOf cX7_isWholeOf 3 (some .boolean) :: gw) (rmN 2) (va_Pc [.ref (a 0), .int (i), .int (q)] (roPre g (yW g a r))) (vp_Si (fun v => v = (b2i (yWof r i q)))) 0 0 (fun _ => False) := by
  refine met_start (by decide) (Nat.le_of_ble_eq_true rfl) ?_
  intro pp ee ss mm bl mt cd hC hpre ls hl
  obtain ⟨⟨hx, hb, hml, hown, hts⟩, hr, hlk, hnm⟩ := id hC
  have hl : lv_has ls 3 [(0, .ref (a 0)), (1, .int (i)), (2, .int (q))] := hl
  obtain ⟨hP, hK⟩ := hpre
  refine lv_aload_n hx hb dX7_isWholeOf_0 rfl (lv_at hl 0 rfl) ?_
  refine lv_iload_n hx hb dX7_isWholeOf_1 rfl (lv_at hl 1 rfl) ?_
  refine ro_i (run_V (As := [.int (i)]) (rest := []) hC.1 ckX7_isWhole (kX7_isWhole l g a r i h2) (gw_in m_543 rfl) (fb_ro _ _ _) (va_recv hK.1 hP (q0 := 0) rfl rfl) (fun U hU hW => ⟨by rw [hU]; exact hP, kK_warm hW hK⟩) ⟨rfl, rfl, Nat.le_of_ble_eq_true rfl, Nat.le_of_ble_eq_true rfl⟩ rfl hl.1 rfl (Nat.le_of_ble_eq_true rfl) dX7_isWholeOf_2 ⟨Nat.le_of_ble_eq_true rfl, Nat.le_of_ble_eq_true rfl⟩) ?_
  refine lv_if_eq (tgt := 22) hx hb dX7_isWholeOf_5 (by decide) (fun c1 => ?_) (fun c1 => ?_)
  · skip
    have c1 := b2i_0 c1
    refine lv_iconst (v := 0) hx hb dX7_isWholeOf_22 rfl ?_
    exact ret_roz hx hb hr hlk rfl (by first | (simp [yWof, b2i, Int32.not_le, Int32.not_lt, c1]; done) | (clear hx hb hr hlk hnm hml hown hts hC hl; simp_all [yWof, b2i, Int32.not_le, Int32.not_lt])) dX7_isWholeOf_23
  · skip
    have c1 := b2i_1 c1
    refine lv_aload_n hx hb dX7_isWholeOf_8 rfl (lv_at hl 0 rfl) ?_
    refine kget hC.1 hK hP 0 rfl rfl in_7 5 (by decide) (gw_in m_110 rfl) rfl dX7_isWholeOf_9 ?_
    refine lv_iload_n hx hb dX7_isWholeOf_12 rfl (lv_at hl 1 rfl) ?_
    refine kald (v := r (9 + cl i)) hC.1 hK hP 3 rfl (yWhl_in c1 h2) rfl dX7_isWholeOf_13 ?_
    refine lv_iload_n hx hb dX7_isWholeOf_14 rfl (lv_at hl 2 rfl) ?_
    refine lv_icmp_ne (tgt := 22) hx hb dX7_isWholeOf_15 (by decide) (fun c2 => ?_) (fun c2 => ?_)
    · skip
      refine lv_iconst (v := 0) hx hb dX7_isWholeOf_22 rfl ?_
      exact ret_roz hx hb hr hlk rfl (by first | (simp [yWof, b2i, Int32.not_le, Int32.not_lt, c1, c2]; done) | (clear hx hb hr hlk hnm hml hown hts hC hl; simp_all [yWof, b2i, Int32.not_le, Int32.not_lt])) dX7_isWholeOf_23
    · skip
      refine lv_iconst (v := 1) hx hb dX7_isWholeOf_18 rfl ?_
      refine lv_goto (tgt := 23) hx hb dX7_isWholeOf_19 (by decide) ?_
      exact ret_roz hx hb hr hlk rfl (by first | (simp [yWof, b2i, Int32.not_le, Int32.not_lt, c1, c2]; done) | (clear hx hb hr hlk hnm hml hown hts hC hl; simp_all [yWof, b2i, Int32.not_le, Int32.not_lt])) dX7_isWholeOf_23
set_option maxHeartbeats 4000000 in
set_option maxRecDepth 100000 in
theorem kX7_canStrike (l : Launch) (g : gG) (a : Nat → Nat) (r : Nat → Int32) (i j : Int32) (h2 : (r 2).toInt ≤ 6) : Met l yX7_canStrike (.code yX7_canStrike cX7_canStrike 3 (some .boolean) :: gw) (rmN 1) (va_Pc [.ref (a 0), .int (i), .int (j)] (roPre g (yW g a r))) (vp_Si (fun v => v = (b2i (yCan r i j)))) 0 0 (fun _ => False) := by
  refine met_start (by decide) (Nat.le_of_ble_eq_true rfl) ?_
  intro pp ee ss mm bl mt cd hC hpre ls hl
  obtain ⟨⟨hx, hb, hml, hown, hts⟩, hr, hlk, hnm⟩ := id hC
  have hl : lv_has ls 3 [(0, .ref (a 0)), (1, .int (i)), (2, .int (j))] := hl
  obtain ⟨hP, hK⟩ := hpre
  refine lv_aload_n hx hb dX7_canStrike_0 rfl (lv_at hl 0 rfl) ?_
  refine lv_iload_n hx hb dX7_canStrike_1 rfl (lv_at hl 1 rfl) ?_
  refine ro_i (run_V (As := [.int (i)]) (rest := []) hC.1 ckX7_isNut (kX7_isNut l g a r i) (gw_in m_502 rfl) (fb_ro _ _ _) (va_recv hK.1 hP (q0 := 0) rfl rfl) (fun U hU hW => ⟨by rw [hU]; exact hP, kK_warm hW hK⟩) ⟨rfl, rfl, Nat.le_of_ble_eq_true rfl, Nat.le_of_ble_eq_true rfl⟩ rfl hl.1 rfl (Nat.le_of_ble_eq_true rfl) dX7_canStrike_2 ⟨Nat.le_of_ble_eq_true rfl, Nat.le_of_ble_eq_true rfl⟩) ?_
  refine lv_if_eq (tgt := 31) hx hb dX7_canStrike_5 (by decide) (fun c1 => ?_) (fun c1 => ?_)
  · skip
    have c1 := b2i_0 c1
    refine lv_iconst (v := 0) hx hb dX7_canStrike_31 rfl ?_
    exact ret_roz hx hb hr hlk rfl (by first | (simp [yCan, b2i, Int32.not_le, Int32.not_lt, c1]; done) | (clear hx hb hr hlk hnm hml hown hts hC hl; simp_all [yCan, b2i, Int32.not_le, Int32.not_lt])) dX7_canStrike_32
  · skip
    have c1 := b2i_1 c1
    refine lv_aload_n hx hb dX7_canStrike_8 rfl (lv_at hl 0 rfl) ?_
    refine lv_iload_n hx hb dX7_canStrike_9 rfl (lv_at hl 2 rfl) ?_
    refine ro_i (run_V (As := [.int (j)]) (rest := []) hC.1 ckX7_isNut (kX7_isNut l g a r j) (gw_in m_502 rfl) (fb_ro _ _ _) (va_recv hK.1 hP (q0 := 0) rfl rfl) (fun U hU hW => ⟨by rw [hU]; exact hP, kK_warm hW hK⟩) ⟨rfl, rfl, Nat.le_of_ble_eq_true rfl, Nat.le_of_ble_eq_true rfl⟩ rfl hl.1 rfl (Nat.le_of_ble_eq_true rfl) dX7_canStrike_10 ⟨Nat.le_of_ble_eq_true rfl, Nat.le_of_ble_eq_true rfl⟩) ?_
    refine lv_if_eq (tgt := 31) hx hb dX7_canStrike_13 (by decide) (fun c2 => ?_) (fun c2 => ?_)
    · skip
      have c2 := b2i_0 c2
      refine lv_iconst (v := 0) hx hb dX7_canStrike_31 rfl ?_
      exact ret_roz hx hb hr hlk rfl (by first | (simp [yCan, b2i, Int32.not_le, Int32.not_lt, c1, c2]; done) | (clear hx hb hr hlk hnm hml hown hts hC hl; simp_all [yCan, b2i, Int32.not_le, Int32.not_lt])) dX7_canStrike_32
    · skip
      have c2 := b2i_1 c2
      refine lv_aload_n hx hb dX7_canStrike_16 rfl (lv_at hl 0 rfl) ?_
      refine kget hC.1 hK hP 0 rfl rfl in_7 5 (by decide) (gw_in m_110 rfl) rfl dX7_canStrike_17 ?_
      refine lv_iload_n hx hb dX7_canStrike_20 rfl (lv_at hl 1 rfl) ?_
      refine kald (v := r (9 + cl i)) hC.1 hK hP 3 rfl (yNut_in c1 h2) rfl dX7_canStrike_21 ?_
      refine lv_aload_n hx hb dX7_canStrike_22 rfl (lv_at hl 0 rfl) ?_
      refine kget hC.1 hK hP 0 rfl rfl in_7 5 (by decide) (gw_in m_110 rfl) rfl dX7_canStrike_23 ?_
      refine lv_iload_n hx hb dX7_canStrike_26 rfl (lv_at hl 2 rfl) ?_
      refine kald (v := r (9 + cl j)) hC.1 hK hP 3 rfl (yNut_in c2 h2) rfl dX7_canStrike_27 ?_
      refine lv_icmp_ne (tgt := 33) hx hb dX7_canStrike_28 (by decide) (fun c3 => ?_) (fun c3 => ?_)
      · skip
        refine lv_aload_n hx hb dX7_canStrike_33 rfl (lv_at hl 0 rfl) ?_
        refine kget hC.1 hK hP 0 rfl rfl in_7 9 (by decide) (gw_in m_115 rfl) rfl dX7_canStrike_34 ?_
        refine lv_iload_n hx hb dX7_canStrike_37 rfl (lv_at hl 1 rfl) ?_
        refine kald (v := r (33 + cl i)) hC.1 hK hP 7 rfl (yNut_in c1 h2) rfl dX7_canStrike_38 ?_
        refine lv_bipush (v := 10) hx hb dX7_canStrike_39 rfl ?_
        refine lv_icmp_ge (tgt := 59) hx hb dX7_canStrike_41 (by decide) (fun c4 => ?_) (fun c4 => ?_)
        · skip
          have c4' := Int32.not_lt.mpr c4
          refine lv_iconst (v := 0) hx hb dX7_canStrike_59 rfl ?_
          exact ret_roz hx hb hr hlk rfl (by first | (simp [yCan, b2i, Int32.not_le, Int32.not_lt, c1, c2, c3, c4, c4']; done) | (clear hx hb hr hlk hnm hml hown hts hC hl; simp_all [yCan, b2i, Int32.not_le, Int32.not_lt])) dX7_canStrike_60
        · skip
          have c4' := Int32.not_le.mp c4
          refine lv_aload_n hx hb dX7_canStrike_44 rfl (lv_at hl 0 rfl) ?_
          refine kget hC.1 hK hP 0 rfl rfl in_7 9 (by decide) (gw_in m_115 rfl) rfl dX7_canStrike_45 ?_
          refine lv_iload_n hx hb dX7_canStrike_48 rfl (lv_at hl 2 rfl) ?_
          refine kald (v := r (33 + cl j)) hC.1 hK hP 7 rfl (yNut_in c2 h2) rfl dX7_canStrike_49 ?_
          refine lv_bipush (v := 10) hx hb dX7_canStrike_50 rfl ?_
          refine lv_icmp_ge (tgt := 59) hx hb dX7_canStrike_52 (by decide) (fun c5 => ?_) (fun c5 => ?_)
          · skip
            have c5' := Int32.not_lt.mpr c5
            refine lv_iconst (v := 0) hx hb dX7_canStrike_59 rfl ?_
            exact ret_roz hx hb hr hlk rfl (by first | (simp [yCan, b2i, Int32.not_le, Int32.not_lt, c1, c2, c3, c4, c4', c5, c5']; done) | (clear hx hb hr hlk hnm hml hown hts hC hl; simp_all [yCan, b2i, Int32.not_le, Int32.not_lt])) dX7_canStrike_60
          · skip
            have c5' := Int32.not_le.mp c5
            refine lv_iconst (v := 1) hx hb dX7_canStrike_55 rfl ?_
            refine lv_goto (tgt := 60) hx hb dX7_canStrike_56 (by decide) ?_
            exact ret_roz hx hb hr hlk rfl (by first | (simp [yCan, b2i, Int32.not_le, Int32.not_lt, c1, c2, c3, c4, c4', c5, c5']; done) | (clear hx hb hr hlk hnm hml hown hts hC hl; simp_all [yCan, b2i, Int32.not_le, Int32.not_lt])) dX7_canStrike_60
      · skip
        refine lv_iconst (v := 0) hx hb dX7_canStrike_31 rfl ?_
        exact ret_roz hx hb hr hlk rfl (by first | (simp [yCan, b2i, Int32.not_le, Int32.not_lt, c1, c2, c3]; done) | (clear hx hb hr hlk hnm hml hown hts hC hl; simp_all [yCan, b2i, Int32.not_le, Int32.not_lt])) dX7_canStrike_32
set_option maxHeartbeats 4000000 in
set_option maxRecDepth 100000 in
theorem kX7_nextNumber (l : Launch) (g : gG) (a : Nat → Nat) (r : Nat → Int32)  (h0 : 0 ≤ (r 0).toInt ∧ (r 0).toInt ≤ 9999) : Met l yX7_nextNumber (.code yX7_nextNumber cX7_nextNumber 1 (some .int) :: gw) (rmN 1) (va_Pc [.ref (a 0)] (roPre g (yW g a r))) (vp_Si (fun v => v = (yNext r))) 0 0 (fun _ => False) := by
  refine met_start (by decide) (Nat.le_of_ble_eq_true rfl) ?_
  intro pp ee ss mm bl mt cd hC hpre ls hl
  obtain ⟨⟨hx, hb, hml, hown, hts⟩, hr, hlk, hnm⟩ := id hC
  have hl : lv_has ls 1 [(0, .ref (a 0))] := hl
  obtain ⟨hP, hK⟩ := hpre
  refine lv_sipush (v := 9999) hx hb dX7_nextNumber_0 rfl ?_
  refine lv_aload_n hx hb dX7_nextNumber_3 rfl (lv_at hl 0 rfl) ?_
  refine kget hC.1 hK hP 0 rfl rfl in_7 2 (by decide) (gw_in m_105 rfl) rfl dX7_nextNumber_4 ?_
  refine lv_iconst (v := 1) hx hb dX7_nextNumber_7 rfl ?_
  refine lv_iadd hx hb dX7_nextNumber_8 ?_
  refine va_mmin hx hb (hml.trans hl.1.symm) hown (hts _ (gw_in m_523 rfl)) (hts _ (gw_in m_164 rfl)) (hts _ (gw_in m_67 rfl)) (hts _ (gw_in m_165 rfl)) (Nat.le_of_ble_eq_true rfl) (Nat.le_of_ble_eq_true rfl) (Nat.le_of_ble_eq_true rfl) (Nat.le_of_ble_eq_true rfl) dX7_nextNumber_9 ?_
  refine top_i (x := if (r 0) + 1 < 9999 then (r 0) + 1 else 9999) (y := yNext r) (yNext_eq h0) ?_
  exact ret_roi hx hb hr hlk (by rfl) dX7_nextNumber_12
set_option maxHeartbeats 4000000 in
set_option maxRecDepth 100000 in
theorem kX7_restart (l : Launch) (g : gG) (a : Nat → Nat) (r : Nat → Int32) (t : Int32) : Met l yX7_restart (.code yX7_restart cX7_restart 2 none :: gw) (rmN 0) (va_Pc [.ref (a 0), .int (t)] (rwPre g (yW g a r ++ []))) (rwQv g (yW g a r ++ []) (yW g a (upd (upd (upd r 1 0) 2 0) 0 t) ++ [])) 0 0 (dm (yW g a r ++ [])) := by
  refine met_start (by decide) (Nat.le_of_ble_eq_true rfl) ?_
  intro pp ee ss mm bl mt cd hC hpre ls hl
  obtain ⟨⟨hx, hb, hml, hown, hts⟩, hr, hlk, hnm⟩ := id hC
  have hl : lv_has ls 2 [(0, .ref (a 0)), (1, .int (t))] := hl
  obtain ⟨hP, hK, hD⟩ := hpre
  have hS : va_S (dm (yW g a r ++ [])) ss.heap ss.heap [] := va_S.rf
  have hD := vD_self hD
  refine lv_aload_n hx hb dX7_restart_0 rfl (lv_at hl 0 rfl) ?_
  refine lv_iconst (v := 0) hx hb dX7_restart_1 rfl ?_
  refine kput (B' := yW g a (upd r 1 0)) hC.1 hK hP hD hS 0 rfl rfl in_7 tyX7 tyX7_ok nmX7 0 (by decide) (gw_in m_99 rfl) rfl (ty := .int) (by decide +kernel) rfl rfl (Nat.le_of_ble_eq_true rfl) (yF1) yW_adr dX7_restart_2 (fun H locs hP hD hS => ?_)
  refine lv_aload_n hx hb dX7_restart_5 rfl (lv_at hl 0 rfl) ?_
  refine lv_iconst (v := 0) hx hb dX7_restart_6 rfl ?_
  refine kput (B' := yW g a (upd (upd r 1 0) 2 0)) hC.1 hK hP hD hS 0 rfl rfl in_7 tyX7 tyX7_ok nmX7 1 (by decide) (gw_in m_102 rfl) rfl (ty := .int) (by decide +kernel) rfl rfl (Nat.le_of_ble_eq_true rfl) (yF2) yW_adr dX7_restart_7 (fun H locs hP hD hS => ?_)
  refine lv_aload_n hx hb dX7_restart_10 rfl (lv_at hl 0 rfl) ?_
  refine lv_iload_n hx hb dX7_restart_11 rfl (lv_at hl 1 rfl) ?_
  refine kput (B' := yW g a (upd (upd (upd r 1 0) 2 0) 0 t)) hC.1 hK hP hD hS 0 rfl rfl in_7 tyX7 tyX7_ok nmX7 2 (by decide) (gw_in m_105 rfl) rfl (ty := .int) (by decide +kernel) rfl rfl (Nat.le_of_ble_eq_true rfl) (yF0) yW_adr dX7_restart_12 (fun H locs hP hD hS => ?_)
  exact ret_rwv hx hb hr hlk (by simpa only [List.append_nil, List.append_assoc] using hP) hS dX7_restart_15
set_option maxHeartbeats 4000000 in
set_option maxRecDepth 100000 in
theorem kX7_pass (l : Launch) (g : gG) (a : Nat → Nat) (r : Nat → Int32) (n : Int32) : Met l yX7_pass (.code yX7_pass cX7_pass 2 none :: gw) (rmN 1) (va_Pc [.ref (a 0), .int (n)] (rwPre g (yW g a r ++ []))) (rwQv g (yW g a r ++ []) (yW g a (upd r 0 (if r 0 + n < 9999 then r 0 + n else 9999)) ++ [])) 0 0 (dm (yW g a r ++ [])) := by
  refine met_start (by decide) (Nat.le_of_ble_eq_true rfl) ?_
  intro pp ee ss mm bl mt cd hC hpre ls hl
  obtain ⟨⟨hx, hb, hml, hown, hts⟩, hr, hlk, hnm⟩ := id hC
  have hl : lv_has ls 2 [(0, .ref (a 0)), (1, .int (n))] := hl
  obtain ⟨hP, hK, hD⟩ := hpre
  have hS : va_S (dm (yW g a r ++ [])) ss.heap ss.heap [] := va_S.rf
  have hD := vD_self hD
  refine lv_aload_n hx hb dX7_pass_0 rfl (lv_at hl 0 rfl) ?_
  refine lv_sipush (v := 9999) hx hb dX7_pass_1 rfl ?_
  refine lv_aload_n hx hb dX7_pass_4 rfl (lv_at hl 0 rfl) ?_
  refine kget hC.1 hK (kP_app.mp hP).1 0 rfl rfl in_7 2 (by decide) (gw_in m_105 rfl) rfl dX7_pass_5 ?_
  refine lv_iload_n hx hb dX7_pass_8 rfl (lv_at hl 1 rfl) ?_
  refine lv_iadd hx hb dX7_pass_9 ?_
  refine va_mmin hx hb (hml.trans hl.1.symm) hown (hts _ (gw_in m_523 rfl)) (hts _ (gw_in m_164 rfl)) (hts _ (gw_in m_67 rfl)) (hts _ (gw_in m_165 rfl)) (Nat.le_of_ble_eq_true rfl) (Nat.le_of_ble_eq_true rfl) (Nat.le_of_ble_eq_true rfl) (Nat.le_of_ble_eq_true rfl) dX7_pass_10 ?_
  refine kput (B' := yW g a (upd r 0 (if (r 0) + n < 9999 then (r 0) + n else 9999))) hC.1 hK hP hD hS 0 rfl rfl in_7 tyX7 tyX7_ok nmX7 2 (by decide) (gw_in m_105 rfl) rfl (ty := .int) (by decide +kernel) rfl rfl (Nat.le_of_ble_eq_true rfl) (yF0) yW_adr dX7_pass_13 (fun H locs hP hD hS => ?_)
  exact ret_rwv hx hb hr hlk (by simpa only [List.append_nil, List.append_assoc] using hP) hS dX7_pass_16
set_option maxHeartbeats 4000000 in
set_option maxRecDepth 100000 in
theorem kX7_handOver (l : Launch) (g : gG) (a : Nat → Nat) (r : Nat → Int32) (i q : Int32) (h2 : (r 2).toInt ≤ 6) : Met l yX7_handOver (.code yX7_handOver cX7_handOver 3 none :: gw) (rmN 1) (va_Pc [.ref (a 0), .int (i), .int (q)] (rwPre g (yW g a r ++ []))) (rwQv g (yW g a r ++ []) (yW g a (if yNut r i && yPl r q then upd r (9 + cl i) q else r) ++ [])) 0 0 (dm (yW g a r ++ [])) := by
  refine met_start (by decide) (Nat.le_of_ble_eq_true rfl) ?_
  intro pp ee ss mm bl mt cd hC hpre ls hl
  obtain ⟨⟨hx, hb, hml, hown, hts⟩, hr, hlk, hnm⟩ := id hC
  have hl : lv_has ls 3 [(0, .ref (a 0)), (1, .int (i)), (2, .int (q))] := hl
  obtain ⟨hP, hK, hD⟩ := hpre
  have hS : va_S (dm (yW g a r ++ [])) ss.heap ss.heap [] := va_S.rf
  have hD := vD_self hD
  refine lv_aload_n hx hb dX7_handOver_0 rfl (lv_at hl 0 rfl) ?_
  refine lv_iload_n hx hb dX7_handOver_1 rfl (lv_at hl 1 rfl) ?_
  refine ro_i (run_V (As := [.int (i)]) (rest := []) hC.1 ckX7_isNut (kX7_isNut l g a r i) (gw_in m_502 rfl) (fb_ro _ _ _) (va_recv hK.1 (kP_app.mp hP).1 (q0 := 0) rfl rfl) (fun U hU hW => ⟨by rw [hU]; exact (kP_app.mp hP).1, kK_warm hW hK⟩) ⟨rfl, rfl, Nat.le_of_ble_eq_true rfl, Nat.le_of_ble_eq_true rfl⟩ rfl hl.1 rfl (Nat.le_of_ble_eq_true rfl) dX7_handOver_2 ⟨Nat.le_of_ble_eq_true rfl, Nat.le_of_ble_eq_true rfl⟩) ?_
  refine lv_if_eq (tgt := 23) hx hb dX7_handOver_5 (by decide) (fun c1 => ?_) (fun c1 => ?_)
  · skip
    have c1 := b2i_0 c1
    exact ret_rwv hx hb hr hlk (by simpa [c1] using hP) hS dX7_handOver_23
  · skip
    have c1 := b2i_1 c1
    refine lv_aload_n hx hb dX7_handOver_8 rfl (lv_at hl 0 rfl) ?_
    refine lv_iload_n hx hb dX7_handOver_9 rfl (lv_at hl 2 rfl) ?_
    refine ro_i (run_V (As := [.int (q)]) (rest := []) hC.1 ckX7_isPlayer (kX7_isPlayer l g a r q) (gw_in m_518 rfl) (fb_ro _ _ _) (va_recv hK.1 (kP_app.mp hP).1 (q0 := 0) rfl rfl) (fun U hU hW => ⟨by rw [hU]; exact (kP_app.mp hP).1, kK_warm hW hK⟩) ⟨rfl, rfl, Nat.le_of_ble_eq_true rfl, Nat.le_of_ble_eq_true rfl⟩ rfl hl.1 rfl (Nat.le_of_ble_eq_true rfl) dX7_handOver_10 ⟨Nat.le_of_ble_eq_true rfl, Nat.le_of_ble_eq_true rfl⟩) ?_
    refine lv_if_eq (tgt := 23) hx hb dX7_handOver_13 (by decide) (fun c2 => ?_) (fun c2 => ?_)
    · skip
      have c2 := b2i_0 c2
      exact ret_rwv hx hb hr hlk (by simpa [c1, c2] using hP) hS dX7_handOver_23
    · skip
      have c2 := b2i_1 c2
      refine lv_aload_n hx hb dX7_handOver_16 rfl (lv_at hl 0 rfl) ?_
      refine kget hC.1 hK (kP_app.mp hP).1 0 rfl rfl in_7 5 (by decide) (gw_in m_110 rfl) rfl dX7_handOver_17 ?_
      refine lv_iload_n hx hb dX7_handOver_20 rfl (lv_at hl 1 rfl) ?_
      refine lv_iload_n hx hb dX7_handOver_21 rfl (lv_at hl 2 rfl) ?_
      refine kast (B' := yW g a (upd r (9 + cl i) q)) hC.1 hK hP hD hS 3 rfl (yNut_in c1 h2) (yA3 (yNut_in c1 h2)) yW_adr dX7_handOver_22 (fun H locs hP hD hS => ?_)
      exact ret_rwv hx hb hr hlk (by simpa [c1, c2] using hP) hS dX7_handOver_23
