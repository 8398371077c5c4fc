theorem ckX9_has : ckS yX9_has cX9_has 2 (some .boolean) 2 := ⟨(gw_in m_1227 rfl), (gw_in m_71 rfl), (gw_in m_1226 rfl), by decide +kernel, by decide +kernel, by decide +kernel⟩
theorem ckX9_isNut : ckS yX9_isNut cX9_isNut 2 (some .boolean) 2 := ⟨(gw_in m_1141 rfl), (gw_in m_71 rfl), (gw_in m_1140 rfl), by decide +kernel, by decide +kernel, by decide +kernel⟩
theorem ckX9_isBroken : ckS yX9_isBroken cX9_isBroken 2 (some .boolean) 2 := ⟨(gw_in m_1135 rfl), (gw_in m_71 rfl), (gw_in m_1134 rfl), by decide +kernel, by decide +kernel, by decide +kernel⟩
theorem ckX9_canStrike : ckS yX9_canStrike cX9_canStrike 3 (some .boolean) 3 := ⟨(gw_in m_1138 rfl), (gw_in m_71 rfl), (gw_in m_1137 rfl), by decide +kernel, by decide +kernel, by decide +kernel⟩
theorem ckX9_nextNumber : ckS yX9_nextNumber cX9_nextNumber 1 (some .int) 1 := ⟨(gw_in m_1147 rfl), (gw_in m_71 rfl), (gw_in m_1146 rfl), by decide +kernel, by decide +kernel, by decide +kernel⟩
theorem ckX9_forceOf : ckS yX9_forceOf cX9_forceOf 4 (some .int) 3 := ⟨(gw_in m_1150 rfl), (gw_in m_71 rfl), (gw_in m_1149 rfl), by decide +kernel, by decide +kernel, by decide +kernel⟩
theorem ckX9_cracked : ckS yX9_cracked cX9_cracked 6 (some .int) 4 := ⟨(gw_in m_1156 rfl), (gw_in m_71 rfl), (gw_in m_1155 rfl), by decide +kernel, by decide +kernel, by decide +kernel⟩
theorem ckX9_scores : ckS yX9_scores cX9_scores 4 none 3 := ⟨(gw_in m_1162 rfl), (gw_in m_71 rfl), (gw_in m_1161 rfl), by decide +kernel, by decide +kernel, by decide +kernel⟩
theorem ckX9_passes : ckS yX9_passes cX9_passes 2 none 2 := ⟨(gw_in m_1170 rfl), (gw_in m_71 rfl), (gw_in m_1169 rfl), by decide +kernel, by decide +kernel, by decide +kernel⟩
theorem ckX9_struck : ckS yX9_struck cX9_struck 6 none 3 := ⟨(gw_in m_1144 rfl), (gw_in m_71 rfl), (gw_in m_1143 rfl), by decide +kernel, by decide +kernel, by decide +kernel⟩
theorem ckX9_leftOf : ckS yX9_leftOf cX9_leftOf 3 (some .int) 3 := ⟨(gw_in m_1245 rfl), (gw_in m_71 rfl), (gw_in m_1244 rfl), by decide +kernel, by decide +kernel, by decide +kernel⟩
set_option maxHeartbeats 4000000 in
set_option maxRecDepth 100000 in
theorem kX9_has (l : Launch) (b k : Int32) : Met l yX9_has (.code yX9_has cX9_has 2 (some .boolean) :: gw) (rmN 0) (va_Pc [.int (b), .int (k)] (fun _ => True)) (vp_Si (fun v => v = (b2i (hasB b k)))) 0 0 (fun _ => False) := by
  refine met_start (by decide) (Nat.le_of_ble_eq_true rfl) ?_
  intro pp ee ss mm bl mt cd hC hpre ls hl
  obtain ⟨⟨hx, hb, hml, hown, hts⟩, hr, hlk, hnm⟩ := id hC
  have hl : lv_has ls 2 [(0, .int (b)), (1, .int (k))] := hl
  refine lv_iload_n hx hb dX9_has_0 rfl (lv_at hl 0 rfl) ?_
  refine lv_iload_n hx hb dX9_has_1 rfl (lv_at hl 1 rfl) ?_
  refine lv_ishr hx hb dX9_has_2 ?_
  refine lv_iconst (v := 1) hx hb dX9_has_3 rfl ?_
  refine lv_iand hx hb dX9_has_4 ?_
  refine lv_iconst (v := 1) hx hb dX9_has_5 rfl ?_
  refine lv_icmp_ne (tgt := 13) hx hb dX9_has_6 (by decide) (fun c1 => ?_) (fun c1 => ?_)
  · skip
    refine lv_iconst (v := 0) hx hb dX9_has_13 rfl ?_
    exact ret_roz hx hb hr hlk rfl (by rw [hasB_1]; simp [b2i, c1]) dX9_has_14
  · skip
    refine lv_iconst (v := 1) hx hb dX9_has_9 rfl ?_
    refine lv_goto (tgt := 14) hx hb dX9_has_10 (by decide) ?_
    exact ret_roz hx hb hr hlk rfl (by rw [hasB_1]; simp [b2i, c1]) dX9_has_14
set_option maxHeartbeats 4000000 in
set_option maxRecDepth 100000 in
theorem kX9_isNut (l : Launch) (g : gG) (a : Nat) (r : Nat → Int32) (i : Int32) (hw : Wf r) : Met l yX9_isNut (.code yX9_isNut cX9_isNut 2 (some .boolean) :: gw) (rmN 1) (va_Pc [.ref (a), .int (i)] (roPre g (aW g a 45 r))) (vp_Si (fun v => v = (b2i (yNut r i)))) 0 0 (fun _ => False) := by
  refine met_start (by decide) (Nat.le_of_ble_eq_true rfl) ?_
  intro pp ee ss mm bl mt cd hC hpre ls hl
  obtain ⟨⟨hx, hb, hml, hown, hts⟩, hr, hlk, hnm⟩ := id hC
  have hl : lv_has ls 2 [(0, .ref (a)), (1, .int (i))] := hl
  obtain ⟨hP, hK⟩ := hpre
  refine lv_iload_n hx hb dX9_isNut_0 rfl (lv_at hl 1 rfl) ?_
  refine lv_iconst (v := 0) hx hb dX9_isNut_1 rfl ?_
  refine lv_aload_n hx hb dX9_isNut_2 rfl (lv_at hl 0 rfl) ?_
  refine lv_iconst (v := 2) hx hb dX9_isNut_3 rfl ?_
  refine kald (v := r 2) hC.1 hK hP 0 rfl (show vp_in (nI 2) 45 from vp_in_nI (by omega) (by omega)) (congrArg r (show cl 2 = 2 from by decide)) dX9_isNut_4 ?_
  refine lv_iconst (v := 1) hx hb dX9_isNut_5 rfl ?_
  refine lv_isub hx hb dX9_isNut_6 ?_
  refine ro_i (run_S (As := [.int (i), .int (0), .int ((r 2) - 1)]) (rest := []) hC.1 ckX9_in (kX9_in l i 0 ((r 2) - 1)) (gw_in m_1038 rfl) (fb_nil _) (fun _ _ _ => trivial) ⟨rfl, rfl, Nat.le_of_ble_eq_true rfl, Nat.le_of_ble_eq_true rfl⟩ rfl hl.1 rfl (Nat.le_of_ble_eq_true rfl) dX9_isNut_7 ⟨Nat.le_of_ble_eq_true rfl, Nat.le_of_ble_eq_true rfl⟩) ?_
  exact ret_roz hx hb hr hlk rfl (by rw [nut_w hw]) dX9_isNut_10
set_option maxHeartbeats 4000000 in
set_option maxRecDepth 100000 in
theorem kX9_isBroken (l : Launch) (g : gG) (a : Nat) (r : Nat → Int32) (i : Int32) (hi : vp_in i 6) : Met l yX9_isBroken (.code yX9_isBroken cX9_isBroken 2 (some .boolean) :: gw) (rmN 0) (va_Pc [.ref (a), .int (i)] (roPre g (aW g a 45 r))) (vp_Si (fun v => v = (b2i (mBrk r i)))) 0 0 (fun _ => False) := by
  refine met_start (by decide) (Nat.le_of_ble_eq_true rfl) ?_
  intro pp ee ss mm bl mt cd hC hpre ls hl
  obtain ⟨⟨hx, hb, hml, hown, hts⟩, hr, hlk, hnm⟩ := id hC
  have hl : lv_has ls 2 [(0, .ref (a)), (1, .int (i))] := hl
  obtain ⟨hP, hK⟩ := hpre
  refine lv_aload_n hx hb dX9_isBroken_0 rfl (lv_at hl 0 rfl) ?_
  refine lv_bipush (v := 33) hx hb dX9_isBroken_1 rfl ?_
  refine lv_iload_n hx hb dX9_isBroken_3 rfl (lv_at hl 1 rfl) ?_
  refine lv_iadd hx hb dX9_isBroken_4 ?_
  refine kald (v := r (33 + cl i)) hC.1 hK hP 0 rfl (ix_in (K := 33) hi (by omega) (by omega)) (congrArg r (show cl (33 + i) = 33 + cl i from ix_cl (K := 33) hi (by omega))) dX9_isBroken_5 ?_
  refine lv_bipush (v := 10) hx hb dX9_isBroken_6 rfl ?_
  refine lv_icmp_lt (tgt := 15) hx hb dX9_isBroken_8 (by decide) (fun c1 => ?_) (fun c1 => ?_)
  · skip
    have c1' := Int32.not_le.mpr c1
    refine lv_iconst (v := 0) hx hb dX9_isBroken_15 rfl ?_
    exact ret_roz hx hb hr hlk rfl (by first | (simp [mBrk, b2i, Int32.not_le, Int32.not_lt, c1, c1']; done) | (clear hx hb hr hlk hnm hml hown hts hC hl; simp_all [mBrk, b2i, Int32.not_le, Int32.not_lt])) dX9_isBroken_16
  · skip
    have c1' := Int32.not_lt.mp c1
    refine lv_iconst (v := 1) hx hb dX9_isBroken_11 rfl ?_
    refine lv_goto (tgt := 16) hx hb dX9_isBroken_12 (by decide) ?_
    exact ret_roz hx hb hr hlk rfl (by first | (simp [mBrk, b2i, Int32.not_le, Int32.not_lt, c1, c1']; done) | (clear hx hb hr hlk hnm hml hown hts hC hl; simp_all [mBrk, b2i, Int32.not_le, Int32.not_lt])) dX9_isBroken_16
set_option maxHeartbeats 4000000 in
set_option maxRecDepth 100000 in
theorem kX9_canStrike (l : Launch) (g : gG) (a : Nat) (r : Nat → Int32) (i j : Int32) (hw : Wf r) : Met l yX9_canStrike (.code yX9_canStrike cX9_canStrike 3 (some .boolean) :: gw) (rmN 2) (va_Pc [.ref (a), .int (i), .int (j)] (roPre g (aW g a 45 r))) (vp_Si (fun v => v = (b2i (yCan r i j)))) 0 0 (fun _ => False) := by
  refine met_start (by decide) (Nat.le_of_ble_eq_true rfl) ?_
  intro pp ee ss mm bl mt cd hC hpre ls hl
  obtain ⟨⟨hx, hb, hml, hown, hts⟩, hr, hlk, hnm⟩ := id hC
  have hl : lv_has ls 3 [(0, .ref (a)), (1, .int (i)), (2, .int (j))] := hl
  obtain ⟨hP, hK⟩ := hpre
  refine lv_aload_n hx hb dX9_canStrike_0 rfl (lv_at hl 0 rfl) ?_
  refine lv_iload_n hx hb dX9_canStrike_1 rfl (lv_at hl 1 rfl) ?_
  refine ro_i (run_S (As := [.ref (a), .int (i)]) (rest := []) hC.1 ckX9_isNut (kX9_isNut l g a r i hw) (gw_in m_1139 rfl) (fb_ro _ _ _) (fun U hU hW => ⟨by rw [hU]; exact hP, kK_warm hW hK⟩) ⟨rfl, rfl, Nat.le_of_ble_eq_true rfl, Nat.le_of_ble_eq_true rfl⟩ rfl hl.1 rfl (Nat.le_of_ble_eq_true rfl) dX9_canStrike_2 ⟨Nat.le_of_ble_eq_true rfl, Nat.le_of_ble_eq_true rfl⟩) ?_
  refine lv_if_eq (tgt := 51) hx hb dX9_canStrike_5 (by decide) (fun c1 => ?_) (fun c1 => ?_)
  · skip
    have c1 := b2i_0 c1
    refine lv_iconst (v := 0) hx hb dX9_canStrike_51 rfl ?_
    exact ret_roz hx hb hr hlk rfl (by simp [yCan_m, b2i, c1]) dX9_canStrike_52
  · skip
    have c1 := b2i_1 c1
    refine lv_aload_n hx hb dX9_canStrike_8 rfl (lv_at hl 0 rfl) ?_
    refine lv_iload_n hx hb dX9_canStrike_9 rfl (lv_at hl 2 rfl) ?_
    refine ro_i (run_S (As := [.ref (a), .int (j)]) (rest := []) hC.1 ckX9_isNut (kX9_isNut l g a r j hw) (gw_in m_1139 rfl) (fb_ro _ _ _) (fun U hU hW => ⟨by rw [hU]; exact hP, kK_warm hW hK⟩) ⟨rfl, rfl, Nat.le_of_ble_eq_true rfl, Nat.le_of_ble_eq_true rfl⟩ rfl hl.1 rfl (Nat.le_of_ble_eq_true rfl) dX9_canStrike_10 ⟨Nat.le_of_ble_eq_true rfl, Nat.le_of_ble_eq_true rfl⟩) ?_
    refine lv_if_eq (tgt := 51) hx hb dX9_canStrike_13 (by decide) (fun c2 => ?_) (fun c2 => ?_)
    · skip
      have c2 := b2i_0 c2
      refine lv_iconst (v := 0) hx hb dX9_canStrike_51 rfl ?_
      exact ret_roz hx hb hr hlk rfl (by simp [yCan_m, b2i, c1, c2]) dX9_canStrike_52
    · skip
      have c2 := b2i_1 c2
      refine lv_aload_n hx hb dX9_canStrike_16 rfl (lv_at hl 0 rfl) ?_
      refine lv_bipush (v := 9) hx hb dX9_canStrike_17 rfl ?_
      refine lv_iload_n hx hb dX9_canStrike_19 rfl (lv_at hl 1 rfl) ?_
      refine lv_iadd hx hb dX9_canStrike_20 ?_
      refine kald (v := r (9 + cl i)) hC.1 hK hP 0 rfl (ix_in (K := 9) (yNut_in c1 hw.n6) (by omega) (by omega)) (congrArg r (show cl (9 + i) = 9 + cl i from ix_cl (K := 9) (yNut_in c1 hw.n6) (by omega))) dX9_canStrike_21 ?_
      refine lv_aload_n hx hb dX9_canStrike_22 rfl (lv_at hl 0 rfl) ?_
      refine lv_bipush (v := 9) hx hb dX9_canStrike_23 rfl ?_
      refine lv_iload_n hx hb dX9_canStrike_25 rfl (lv_at hl 2 rfl) ?_
      refine lv_iadd hx hb dX9_canStrike_26 ?_
      refine kald (v := r (9 + cl j)) hC.1 hK hP 0 rfl (ix_in (K := 9) (yNut_in c2 hw.n6) (by omega) (by omega)) (congrArg r (show cl (9 + j) = 9 + cl j from ix_cl (K := 9) (yNut_in c2 hw.n6) (by omega))) dX9_canStrike_27 ?_
      refine lv_icmp_eq (tgt := 51) hx hb dX9_canStrike_28 (by decide) (fun c3 => ?_) (fun c3 => ?_)
      · skip
        refine lv_iconst (v := 0) hx hb dX9_canStrike_51 rfl ?_
        exact ret_roz hx hb hr hlk rfl (by simp [yCan_m, b2i, c1, c2, c3]) dX9_canStrike_52
      · skip
        refine lv_aload_n hx hb dX9_canStrike_31 rfl (lv_at hl 0 rfl) ?_
        refine lv_iload_n hx hb dX9_canStrike_32 rfl (lv_at hl 1 rfl) ?_
        refine ro_i (run_S (As := [.ref (a), .int (i)]) (rest := []) hC.1 ckX9_isBroken (kX9_isBroken l g a r i (yNut_in c1 hw.n6)) (gw_in m_1133 rfl) (fb_ro _ _ _) (fun U hU hW => ⟨by rw [hU]; exact hP, kK_warm hW hK⟩) ⟨rfl, rfl, Nat.le_of_ble_eq_true rfl, Nat.le_of_ble_eq_true rfl⟩ rfl hl.1 rfl (Nat.le_of_ble_eq_true rfl) dX9_canStrike_33 ⟨Nat.le_of_ble_eq_true rfl, Nat.le_of_ble_eq_true rfl⟩) ?_
        refine lv_if_ne (tgt := 51) hx hb dX9_canStrike_36 (by decide) (fun c4 => ?_) (fun c4 => ?_)
        · skip
          have c4 := b2i_1 c4
          refine lv_iconst (v := 0) hx hb dX9_canStrike_51 rfl ?_
          exact ret_roz hx hb hr hlk rfl (by simp [yCan_m, b2i, c1, c2, c3, c4]) dX9_canStrike_52
        · skip
          have c4 := b2i_0 c4
          refine lv_aload_n hx hb dX9_canStrike_39 rfl (lv_at hl 0 rfl) ?_
          refine lv_iload_n hx hb dX9_canStrike_40 rfl (lv_at hl 2 rfl) ?_
          refine ro_i (run_S (As := [.ref (a), .int (j)]) (rest := []) hC.1 ckX9_isBroken (kX9_isBroken l g a r j (yNut_in c2 hw.n6)) (gw_in m_1133 rfl) (fb_ro _ _ _) (fun U hU hW => ⟨by rw [hU]; exact hP, kK_warm hW hK⟩) ⟨rfl, rfl, Nat.le_of_ble_eq_true rfl, Nat.le_of_ble_eq_true rfl⟩ rfl hl.1 rfl (Nat.le_of_ble_eq_true rfl) dX9_canStrike_41 ⟨Nat.le_of_ble_eq_true rfl, Nat.le_of_ble_eq_true rfl⟩) ?_
          refine lv_if_ne (tgt := 51) hx hb dX9_canStrike_44 (by decide) (fun c5 => ?_) (fun c5 => ?_)
          · skip
            have c5 := b2i_1 c5
            refine lv_iconst (v := 0) hx hb dX9_canStrike_51 rfl ?_
            exact ret_roz hx hb hr hlk rfl (by simp [yCan_m, b2i, c1, c2, c3, c4, c5]) dX9_canStrike_52
          · skip
            have c5 := b2i_0 c5
            refine lv_iconst (v := 1) hx hb dX9_canStrike_47 rfl ?_
            refine lv_goto (tgt := 52) hx hb dX9_canStrike_48 (by decide) ?_
            exact ret_roz hx hb hr hlk rfl (by simp [yCan_m, b2i, c1, c2, c3, c4, c5]) dX9_canStrike_52
set_option maxHeartbeats 4000000 in
set_option maxRecDepth 100000 in
theorem kX9_nextNumber (l : Launch) (g : gG) (a : Nat) (r : Nat → Int32)  : Met l yX9_nextNumber (.code yX9_nextNumber cX9_nextNumber 1 (some .int) :: gw) (rmN 0) (va_Pc [.ref (a)] (roPre g (aW g a 45 r))) (vp_Si (fun v => v = (yNext r))) 0 0 (fun _ => False) := by
  refine met_start (by decide) (Nat.le_of_ble_eq_true rfl) ?_
  intro pp ee ss mm bl mt cd hC hpre ls hl
  obtain ⟨⟨hx, hb, hml, hown, hts⟩, hr, hlk, hnm⟩ := id hC
  have hl : lv_has ls 1 [(0, .ref (a))] := hl
  obtain ⟨hP, hK⟩ := hpre
  refine lv_aload_n hx hb dX9_nextNumber_0 rfl (lv_at hl 0 rfl) ?_
  refine lv_iconst (v := 0) hx hb dX9_nextNumber_1 rfl ?_
  refine kald (v := r 0) hC.1 hK hP 0 rfl (show vp_in (nI 0) 45 from vp_in_nI (by omega) (by omega)) (congrArg r (show cl 0 = 0 from by decide)) dX9_nextNumber_2 ?_
  refine lv_sipush (v := 9999) hx hb dX9_nextNumber_3 rfl ?_
  refine lv_icmp_ge (tgt := 17) hx hb dX9_nextNumber_6 (by decide) (fun c1 => ?_) (fun c1 => ?_)
  · skip
    have c1' := Int32.not_lt.mpr c1
    refine lv_sipush (v := 9999) hx hb dX9_nextNumber_17 rfl ?_
    exact ret_roi hx hb hr hlk (by first | (simp [yNext, Int32.not_le, Int32.not_lt, c1, c1']; done) | (clear hx hb hr hlk hnm hml hown hts hC hl; simp_all [yNext, Int32.not_le, Int32.not_lt])) dX9_nextNumber_20
  · skip
    have c1' := Int32.not_le.mp c1
    refine lv_aload_n hx hb dX9_nextNumber_9 rfl (lv_at hl 0 rfl) ?_
    refine lv_iconst (v := 0) hx hb dX9_nextNumber_10 rfl ?_
    refine kald (v := r 0) hC.1 hK hP 0 rfl (show vp_in (nI 0) 45 from vp_in_nI (by omega) (by omega)) (congrArg r (show cl 0 = 0 from by decide)) dX9_nextNumber_11 ?_
    refine lv_iconst (v := 1) hx hb dX9_nextNumber_12 rfl ?_
    refine lv_iadd hx hb dX9_nextNumber_13 ?_
    refine lv_goto (tgt := 20) hx hb dX9_nextNumber_14 (by decide) ?_
    exact ret_roi hx hb hr hlk (by first | (simp [yNext, Int32.not_le, Int32.not_lt, c1, c1']; done) | (clear hx hb hr hlk hnm hml hown hts hC hl; simp_all [yNext, Int32.not_le, Int32.not_lt])) dX9_nextNumber_20
set_option maxHeartbeats 4000000 in
set_option maxRecDepth 100000 in
theorem kX9_forceOf (l : Launch) (g : gG) (a : Nat) (r : Nat → Int32) (i t : Int32) (hi : vp_in i 6) (ho : vp_in (r (9 + cl i)) 3) : Met l yX9_forceOf (.code yX9_forceOf cX9_forceOf 4 (some .int) :: gw) (rmN 1) (va_Pc [.ref (a), .int (i), .int (t)] (roPre g (aW g a 45 r))) (vp_Si (fun v => v = (fo r i t))) 0 0 (fun _ => False) := by
  refine met_start (by decide) (Nat.le_of_ble_eq_true rfl) ?_
  intro pp ee ss mm bl mt cd hC hpre ls hl
  obtain ⟨⟨hx, hb, hml, hown, hts⟩, hr, hlk, hnm⟩ := id hC
  have hl : lv_has ls 4 [(0, .ref (a)), (1, .int (i)), (2, .int (t))] := hl
  obtain ⟨hP, hK⟩ := hpre
  refine lv_aload_n hx hb dX9_forceOf_0 rfl (lv_at hl 0 rfl) ?_
  refine lv_bipush (v := 9) hx hb dX9_forceOf_1 rfl ?_
  refine lv_iload_n hx hb dX9_forceOf_3 rfl (lv_at hl 1 rfl) ?_
  refine lv_iadd hx hb dX9_forceOf_4 ?_
  refine kald (v := r (9 + cl i)) hC.1 hK hP 0 rfl (ix_in (K := 9) hi (by omega) (by omega)) (congrArg r (show cl (9 + i) = 9 + cl i from ix_cl (K := 9) hi (by omega))) dX9_forceOf_5 ?_
  refine lv_istore_n (lv' := [(3, .int (r (9 + cl i))), (0, .ref (a)), (1, .int (i)), (2, .int (t))]) hx hb dX9_forceOf_6 rfl hl (by decide) rfl (fun ls hl => ?_)
  refine lv_aload_n hx hb dX9_forceOf_7 rfl (lv_at hl 1 rfl) ?_
  refine lv_iconst (v := 3) hx hb dX9_forceOf_8 rfl ?_
  refine lv_iload_n hx hb dX9_forceOf_9 rfl (lv_at hl 0 rfl) ?_
  refine lv_iadd hx hb dX9_forceOf_10 ?_
  refine kald (v := r (3 + cl (r (9 + cl i)))) hC.1 hK hP 0 rfl (ix_in (K := 3) ho (by omega) (by omega)) (congrArg r (show cl (3 + (r (9 + cl i))) = 3 + cl (r (9 + cl i)) from ix_cl (K := 3) ho (by omega))) dX9_forceOf_11 ?_
  refine lv_aload_n hx hb dX9_forceOf_12 rfl (lv_at hl 1 rfl) ?_
  refine lv_bipush (v := 6) hx hb dX9_forceOf_13 rfl ?_
  refine lv_iload_n hx hb dX9_forceOf_15 rfl (lv_at hl 0 rfl) ?_
  refine lv_iadd hx hb dX9_forceOf_16 ?_
  refine kald (v := r (6 + cl (r (9 + cl i)))) hC.1 hK hP 0 rfl (ix_in (K := 6) ho (by omega) (by omega)) (congrArg r (show cl (6 + (r (9 + cl i))) = 6 + cl (r (9 + cl i)) from ix_cl (K := 6) ho (by omega))) dX9_forceOf_17 ?_
  refine lv_aload_n hx hb dX9_forceOf_18 rfl (lv_at hl 1 rfl) ?_
  refine lv_bipush (v := 27) hx hb dX9_forceOf_19 rfl ?_
  refine lv_iload_n hx hb dX9_forceOf_21 rfl (lv_at hl 2 rfl) ?_
  refine lv_iadd hx hb dX9_forceOf_22 ?_
  refine kald (v := r (27 + cl i)) hC.1 hK hP 0 rfl (ix_in (K := 27) hi (by omega) (by omega)) (congrArg r (show cl (27 + i) = 27 + cl i from ix_cl (K := 27) hi (by omega))) dX9_forceOf_23 ?_
  refine lv_iload_n hx hb dX9_forceOf_24 rfl (lv_at hl 3 rfl) ?_
  refine ro_i (run_S (As := [.int (r (3 + cl (r (9 + cl i)))), .int (r (6 + cl (r (9 + cl i)))), .int (r (27 + cl i)), .int (t)]) (rest := []) hC.1 ckX9_forceBy (kX9_forceBy l (r (3 + cl (r (9 + cl i)))) (r (6 + cl (r (9 + cl i)))) (r (27 + cl i)) t) (gw_in m_1151 rfl) (fb_nil _) (fun _ _ _ => trivial) ⟨rfl, rfl, Nat.le_of_ble_eq_true rfl, Nat.le_of_ble_eq_true rfl⟩ rfl hl.1 rfl (Nat.le_of_ble_eq_true rfl) dX9_forceOf_25 ⟨Nat.le_of_ble_eq_true rfl, Nat.le_of_ble_eq_true rfl⟩) ?_
  exact ret_roi hx hb hr hlk (by rfl) dX9_forceOf_28
set_option maxHeartbeats 4000000 in
set_option maxRecDepth 100000 in
theorem kX9_cracked (l : Launch) (g : gG) (a : Nat) (r : Nat → Int32) (i f t : Int32) (hi : vp_in i 6) : Met l yX9_cracked (.code yX9_cracked cX9_cracked 6 (some .int) :: gw) (rmN 1) (va_Pc [.ref (a), .int (i), .int (f), .int (t)] (roPre g (aW g a 45 r))) (vp_Si (fun v => v = (crkd r i f t))) 0 0 (fun _ => False) := by
  refine met_start (by decide) (Nat.le_of_ble_eq_true rfl) ?_
  intro pp ee ss mm bl mt cd hC hpre ls hl
  obtain ⟨⟨hx, hb, hml, hown, hts⟩, hr, hlk, hnm⟩ := id hC
  have hl : lv_has ls 6 [(0, .ref (a)), (1, .int (i)), (2, .int (f)), (3, .int (t))] := hl
  obtain ⟨hP, hK⟩ := hpre
  refine lv_aload_n hx hb dX9_cracked_0 rfl (lv_at hl 0 rfl) ?_
  refine lv_bipush (v := 33) hx hb dX9_cracked_1 rfl ?_
  refine lv_iload_n hx hb dX9_cracked_3 rfl (lv_at hl 1 rfl) ?_
  refine lv_iadd hx hb dX9_cracked_4 ?_
  refine kald (v := r (33 + cl i)) hC.1 hK hP 0 rfl (ix_in (K := 33) hi (by omega) (by omega)) (congrArg r (show cl (33 + i) = 33 + cl i from ix_cl (K := 33) hi (by omega))) dX9_cracked_5 ?_
  refine lv_istore (lv' := [(4, .int (r (33 + cl i))), (0, .ref (a)), (1, .int (i)), (2, .int (f)), (3, .int (t))]) hx hb dX9_cracked_6 hl (by decide) rfl (fun ls hl => ?_)
  refine lv_iload hx hb dX9_cracked_8 (lv_at hl 0 rfl) ?_
  refine lv_aload_n hx hb dX9_cracked_10 rfl (lv_at hl 1 rfl) ?_
  refine lv_bipush (v := 15) hx hb dX9_cracked_11 rfl ?_
  refine lv_iload_n hx hb dX9_cracked_13 rfl (lv_at hl 2 rfl) ?_
  refine lv_iadd hx hb dX9_cracked_14 ?_
  refine kald (v := r (15 + cl i)) hC.1 hK hP 0 rfl (ix_in (K := 15) hi (by omega) (by omega)) (congrArg r (show cl (15 + i) = 15 + cl i from ix_cl (K := 15) hi (by omega))) dX9_cracked_15 ?_
  refine lv_aload_n hx hb dX9_cracked_16 rfl (lv_at hl 1 rfl) ?_
  refine lv_bipush (v := 21) hx hb dX9_cracked_17 rfl ?_
  refine lv_iload_n hx hb dX9_cracked_19 rfl (lv_at hl 2 rfl) ?_
  refine lv_iadd hx hb dX9_cracked_20 ?_
  refine kald (v := r (21 + cl i)) hC.1 hK hP 0 rfl (ix_in (K := 21) hi (by omega) (by omega)) (congrArg r (show cl (21 + i) = 21 + cl i from ix_cl (K := 21) hi (by omega))) dX9_cracked_21 ?_
  refine lv_iload hx hb dX9_cracked_22 (lv_at hl 0 rfl) ?_
  refine lv_iload_n hx hb dX9_cracked_24 rfl (lv_at hl 3 rfl) ?_
  refine lv_iload_n hx hb dX9_cracked_25 rfl (lv_at hl 4 rfl) ?_
  refine ro_i (run_S (As := [.int (r (15 + cl i)), .int (r (21 + cl i)), .int (r (33 + cl i)), .int (f), .int (t)]) (rest := [.int (r (33 + cl i))]) hC.1 ckX9_cracksBy (kX9_cracksBy l (r (15 + cl i)) (r (21 + cl i)) (r (33 + cl i)) f t) (gw_in m_1157 rfl) (fb_nil _) (fun _ _ _ => trivial) ⟨rfl, rfl, Nat.le_of_ble_eq_true rfl, Nat.le_of_ble_eq_true rfl⟩ rfl hl.1 rfl (Nat.le_of_ble_eq_true rfl) dX9_cracked_26 ⟨Nat.le_of_ble_eq_true rfl, Nat.le_of_ble_eq_true rfl⟩) ?_
  refine lv_iadd hx hb dX9_cracked_29 ?_
  refine lv_istore (lv' := [(5, .int ((r (33 + cl i)) + (crk (r (15 + cl i)) (r (21 + cl i)) (r (33 + cl i)) f t))), (4, .int (r (33 + cl i))), (0, .ref (a)), (1, .int (i)), (2, .int (f)), (3, .int (t))]) hx hb dX9_cracked_30 hl (by decide) rfl (fun ls hl => ?_)
  refine lv_iload hx hb dX9_cracked_32 (lv_at hl 0 rfl) ?_
  refine lv_bipush (v := 10) hx hb dX9_cracked_34 rfl ?_
  refine lv_icmp_le (tgt := 44) hx hb dX9_cracked_36 (by decide) (fun c1 => ?_) (fun c1 => ?_)
  · skip
    have c1' := Int32.not_lt.mpr c1
    refine lv_iload hx hb dX9_cracked_44 (lv_at hl 0 rfl) ?_
    exact ret_roi hx hb hr hlk (by unfold crkd; rw [if_neg c1']) dX9_cracked_46
  · skip
    have c1' := Int32.not_le.mp c1
    refine lv_bipush (v := 10) hx hb dX9_cracked_39 rfl ?_
    refine lv_goto (tgt := 46) hx hb dX9_cracked_41 (by decide) ?_
    exact ret_roi hx hb hr hlk (by unfold crkd; rw [if_pos c1']) dX9_cracked_46
set_option maxHeartbeats 4000000 in
set_option maxRecDepth 100000 in
theorem kX9_scores (l : Launch) (g : gG) (a : Nat) (r : Nat → Int32) (i j : Int32) (hi : vp_in i 6) (hj : vp_in j 6) : Met l yX9_scores (.code yX9_scores cX9_scores 4 none :: gw) (rmN 0) (va_Pc [.ref (a), .int (i), .int (j)] (rwPre g (aW g a 45 r ++ []))) (rwQv g (aW g a 45 r ++ []) (aW g a 45 (scF r i j) ++ [])) 0 0 (dm (aW g a 45 r ++ [])) := by
  refine met_start (by decide) (Nat.le_of_ble_eq_true rfl) ?_
  intro pp ee ss mm bl mt cd hC hpre ls hl
  obtain ⟨⟨hx, hb, hml, hown, hts⟩, hr, hlk, hnm⟩ := id hC
  have hl : lv_has ls 4 [(0, .ref (a)), (1, .int (i)), (2, .int (j))] := hl
  obtain ⟨hP, hK, hD⟩ := hpre
  have hS : va_S (dm (aW g a 45 r ++ [])) ss.heap ss.heap [] := va_S.rf
  have hD := vD_self hD
  refine lv_aload_n hx hb dX9_scores_0 rfl (lv_at hl 0 rfl) ?_
  refine lv_bipush (v := 39) hx hb dX9_scores_1 rfl ?_
  refine lv_iload_n hx hb dX9_scores_3 rfl (lv_at hl 1 rfl) ?_
  refine lv_iadd hx hb dX9_scores_4 ?_
  refine kald (v := r (39 + cl i)) hC.1 hK (kP_app.mp hP).1 0 rfl (ix_in (K := 39) hi (by omega) (by omega)) (congrArg r (show cl (39 + i) = 39 + cl i from ix_cl (K := 39) hi (by omega))) dX9_scores_5 ?_
  refine lv_aload_n hx hb dX9_scores_6 rfl (lv_at hl 0 rfl) ?_
  refine lv_bipush (v := 39) hx hb dX9_scores_7 rfl ?_
  refine lv_iload_n hx hb dX9_scores_9 rfl (lv_at hl 2 rfl) ?_
  refine lv_iadd hx hb dX9_scores_10 ?_
  refine kald (v := r (39 + cl j)) hC.1 hK (kP_app.mp hP).1 0 rfl (ix_in (K := 39) hj (by omega) (by omega)) (congrArg r (show cl (39 + j) = 39 + cl j from ix_cl (K := 39) hj (by omega))) dX9_scores_11 ?_
  refine lv_iadd hx hb dX9_scores_12 ?_
  refine lv_istore_n (lv' := [(3, .int ((r (39 + cl i)) + (r (39 + cl j)))), (0, .ref (a)), (1, .int (i)), (2, .int (j))]) hx hb dX9_scores_13 rfl hl (by decide) rfl (fun ls hl => ?_)
  refine lv_aload_n hx hb dX9_scores_14 rfl (lv_at hl 1 rfl) ?_
  refine lv_bipush (v := 39) hx hb dX9_scores_15 rfl ?_
  refine lv_iload_n hx hb dX9_scores_17 rfl (lv_at hl 2 rfl) ?_
  refine lv_iadd hx hb dX9_scores_18 ?_
  refine lv_iload_n hx hb dX9_scores_19 rfl (lv_at hl 0 rfl) ?_
  refine lv_sipush (v := 999) hx hb dX9_scores_20 rfl ?_
  refine lv_icmp_le (tgt := 32) hx hb dX9_scores_23 (by decide) (fun c1 => ?_) (fun c1 => ?_)
  · skip
    have c1' := Int32.not_lt.mpr c1
    refine lv_iload_n hx hb dX9_scores_32 rfl (lv_at hl 0 rfl) ?_
    refine kast (B' := aW g a 45 (upd r (39 + cl i) ((r (39 + cl i)) + (r (39 + cl j))))) hC.1 hK hP hD hS 0 rfl (ix_in (K := 39) hi (by omega) (by omega)) (fun _ h => by rw [(show cl (39 + i) = 39 + cl i from ix_cl (K := 39) hi (by omega))] at h; exact h) aW_adr dX9_scores_33 (fun H locs hP hD hS => ?_)
    exact ret_rwv hx hb hr hlk (kP_eq (by unfold scF cap999; rw [if_neg c1']) hP) hS dX9_scores_34
  · skip
    have c1' := Int32.not_le.mp c1
    refine lv_sipush (v := 999) hx hb dX9_scores_26 rfl ?_
    refine lv_goto (tgt := 33) hx hb dX9_scores_29 (by decide) ?_
    refine kast (B' := aW g a 45 (upd r (39 + cl i) 999)) hC.1 hK hP hD hS 0 rfl (ix_in (K := 39) hi (by omega) (by omega)) (fun _ h => by rw [(show cl (39 + i) = 39 + cl i from ix_cl (K := 39) hi (by omega))] at h; exact h) aW_adr dX9_scores_33 (fun H locs hP hD hS => ?_)
    exact ret_rwv hx hb hr hlk (kP_eq (by unfold scF cap999; rw [if_pos c1']) hP) hS dX9_scores_34
set_option maxHeartbeats 4000000 in
set_option maxRecDepth 100000 in
theorem kX9_passes (l : Launch) (g : gG) (a : Nat) (r : Nat → Int32) (n : Int32) : Met l yX9_passes (.code yX9_passes cX9_passes 2 none :: gw) (rmN 0) (va_Pc [.ref (a), .int (n)] (rwPre g (aW g a 45 r ++ []))) (rwQv g (aW g a 45 r ++ []) (aW g a 45 (upd r 0 (if 9999 < r 0 + n then 9999 else r 0 + n)) ++ [])) 0 0 (dm (aW g a 45 r ++ [])) := by
  refine met_start (by decide) (Nat.le_of_ble_eq_true rfl) ?_
  intro pp ee ss mm bl mt cd hC hpre ls hl
  obtain ⟨⟨hx, hb, hml, hown, hts⟩, hr, hlk, hnm⟩ := id hC
  have hl : lv_has ls 2 [(0, .ref (a)), (1, .int (n))] := hl
  obtain ⟨hP, hK, hD⟩ := hpre
  have hS : va_S (dm (aW g a 45 r ++ [])) ss.heap ss.heap [] := va_S.rf
  have hD := vD_self hD
  refine lv_aload_n hx hb dX9_passes_0 rfl (lv_at hl 0 rfl) ?_
  refine lv_iconst (v := 0) hx hb dX9_passes_1 rfl ?_
  refine lv_aload_n hx hb dX9_passes_2 rfl (lv_at hl 0 rfl) ?_
  refine lv_iconst (v := 0) hx hb dX9_passes_3 rfl ?_
  refine kald (v := r 0) hC.1 hK (kP_app.mp hP).1 0 rfl (show vp_in (nI 0) 45 from vp_in_nI (by omega) (by omega)) (congrArg r (show cl 0 = 0 from by decide)) dX9_passes_4 ?_
  refine lv_iload_n hx hb dX9_passes_5 rfl (lv_at hl 1 rfl) ?_
  refine lv_iadd hx hb dX9_passes_6 ?_
  refine lv_sipush (v := 9999) hx hb dX9_passes_7 rfl ?_
  refine lv_icmp_le (tgt := 19) hx hb dX9_passes_10 (by decide) (fun c1 => ?_) (fun c1 => ?_)
  · skip
    have c1' := Int32.not_lt.mpr c1
    refine lv_aload_n hx hb dX9_passes_19 rfl (lv_at hl 0 rfl) ?_
    refine lv_iconst (v := 0) hx hb dX9_passes_20 rfl ?_
    refine kald (v := r 0) hC.1 hK (kP_app.mp hP).1 0 rfl (show vp_in (nI 0) 45 from vp_in_nI (by omega) (by omega)) (congrArg r (show cl 0 = 0 from by decide)) dX9_passes_21 ?_
    refine lv_iload_n hx hb dX9_passes_22 rfl (lv_at hl 1 rfl) ?_
    refine lv_iadd hx hb dX9_passes_23 ?_
    refine kast (B' := aW g a 45 (upd r 0 ((r 0) + n))) hC.1 hK hP hD hS 0 rfl (show vp_in (nI 0) 45 from vp_in_nI (by omega) (by omega)) (fun _ h => by rw [(show cl 0 = 0 from by decide)] at h; exact h) aW_adr dX9_passes_24 (fun H locs hP hD hS => ?_)
    exact ret_rwv hx hb hr hlk (kP_eq (by rw [if_neg c1']) hP) hS dX9_passes_25
  · skip
    have c1' := Int32.not_le.mp c1
    refine lv_sipush (v := 9999) hx hb dX9_passes_13 rfl ?_
    refine lv_goto (tgt := 24) hx hb dX9_passes_16 (by decide) ?_
    refine kast (B' := aW g a 45 (upd r 0 9999)) hC.1 hK hP hD hS 0 rfl (show vp_in (nI 0) 45 from vp_in_nI (by omega) (by omega)) (fun _ h => by rw [(show cl 0 = 0 from by decide)] at h; exact h) aW_adr dX9_passes_24 (fun H locs hP hD hS => ?_)
    exact ret_rwv hx hb hr hlk (kP_eq (by rw [if_pos c1']) hP) hS dX9_passes_25
set_option maxHeartbeats 4000000 in
set_option maxRecDepth 100000 in
theorem kX9_struck (l : Launch) (g : gG) (a : Nat) (r : Nat → Int32) (i j : Int32) (hw : Wf r) (hc : yCan r i j = true) : Met l yX9_struck (.code yX9_struck cX9_struck 6 none :: gw) (rmN 2) (va_Pc [.ref (a), .int (i), .int (j)] (rwPre g (aW g a 45 r ++ []))) (rwQv g (aW g a 45 r ++ []) (aW g a 45 (stk r i j) ++ [])) 0 0 (dm (aW g a 45 r ++ [])) := by
  refine met_start (by decide) (Nat.le_of_ble_eq_true rfl) ?_
  intro pp ee ss mm bl mt cd hC hpre ls hl
  obtain ⟨⟨hx, hb, hml, hown, hts⟩, hr, hlk, hnm⟩ := id hC
  have hl : lv_has ls 6 [(0, .ref (a)), (1, .int (i)), (2, .int (j))] := hl
  obtain ⟨hP, hK, hD⟩ := hpre
  have hS : va_S (dm (aW g a 45 r ++ [])) ss.heap ss.heap [] := va_S.rf
  have hD := vD_self hD
  have hii := yCan_in1 hc hw.n6
  have hij := yCan_in2 hc hw.n6
  have hoo := yPl_in (hw.own (yCan_nut hc).1) hw.n3
  have hci := cl_lt hii
  have hcj := cl_lt hij
  refine lv_aload_n hx hb dX9_struck_0 rfl (lv_at hl 0 rfl) ?_
  refine ro_i (run_S (As := [.ref (a)]) (rest := []) hC.1 ckX9_nextNumber (kX9_nextNumber l g a r) (gw_in m_1145 rfl) (fb_ro _ _ _) (fun U hU hW => ⟨by rw [hU]; exact (kP_app.mp hP).1, kK_warm hW hK⟩) ⟨rfl, rfl, Nat.le_of_ble_eq_true rfl, Nat.le_of_ble_eq_true rfl⟩ rfl hl.1 rfl (Nat.le_of_ble_eq_true rfl) dX9_struck_1 ⟨Nat.le_of_ble_eq_true rfl, Nat.le_of_ble_eq_true rfl⟩) ?_
  refine lv_istore_n (lv' := [(3, .int (yNext r)), (0, .ref (a)), (1, .int (i)), (2, .int (j))]) hx hb dX9_struck_4 rfl hl (by decide) rfl (fun ls hl => ?_)
  refine lv_aload_n hx hb dX9_struck_5 rfl (lv_at hl 1 rfl) ?_
  refine lv_iconst (v := 0) hx hb dX9_struck_6 rfl ?_
  refine lv_iload_n hx hb dX9_struck_7 rfl (lv_at hl 0 rfl) ?_
  refine kast (B' := aW g a 45 (upd r 0 (yNext r))) hC.1 hK hP hD hS 0 rfl (show vp_in (nI 0) 45 from vp_in_nI (by omega) (by omega)) (fun _ h => by rw [(show cl 0 = 0 from by decide)] at h; exact h) aW_adr dX9_struck_8 (fun H locs hP hD hS => ?_)
  refine lv_aload_n hx hb dX9_struck_9 rfl (lv_at hl 1 rfl) ?_
  refine lv_iload_n hx hb dX9_struck_10 rfl (lv_at hl 2 rfl) ?_
  refine lv_iload_n hx hb dX9_struck_11 rfl (lv_at hl 0 rfl) ?_
  refine ro_i (run_S (As := [.ref (a), .int (i), .int (yNext r)]) (rest := []) hC.1 ckX9_forceOf (kX9_forceOf l g a (upd r 0 (yNext r)) i (yNext r) hii (by rw [upd_ne (by omega)]; exact hoo)) (gw_in m_1148 rfl) (fb_ro _ _ _) (fun U hU hW => ⟨by rw [hU]; exact (kP_app.mp hP).1, kK_warm hW hK⟩) ⟨rfl, rfl, Nat.le_of_ble_eq_true rfl, Nat.le_of_ble_eq_true rfl⟩ rfl hl.1 rfl (Nat.le_of_ble_eq_true rfl) dX9_struck_12 ⟨Nat.le_of_ble_eq_true rfl, Nat.le_of_ble_eq_true rfl⟩) ?_
  refine top_i (x := fo (upd r 0 (yNext r)) i (yNext r)) (y := fo r i (yNext r)) (fo_0 (by omega)) ?_
  refine lv_istore (lv' := [(4, .int (fo r i (yNext r))), (3, .int (yNext r)), (0, .ref (a)), (1, .int (i)), (2, .int (j))]) hx hb dX9_struck_15 hl (by decide) rfl (fun ls hl => ?_)
  refine lv_aload_n hx hb dX9_struck_17 rfl (lv_at hl 2 rfl) ?_
  refine lv_iload_n hx hb dX9_struck_18 rfl (lv_at hl 3 rfl) ?_
  refine lv_iload hx hb dX9_struck_19 (lv_at hl 0 rfl) ?_
  refine lv_iconst (v := 2) hx hb dX9_struck_21 rfl ?_
  refine lv_idiv hx hb dX9_struck_22 (by decide) ?_
  refine lv_iload_n hx hb dX9_struck_23 rfl (lv_at hl 1 rfl) ?_
  refine ro_i (run_S (As := [.ref (a), .int (i), .int ((fo r i (yNext r)) / 2), .int (yNext r)]) (rest := []) hC.1 ckX9_cracked (kX9_cracked l g a (upd r 0 (yNext r)) i ((fo r i (yNext r)) / 2) (yNext r) hii) (gw_in m_1154 rfl) (fb_ro _ _ _) (fun U hU hW => ⟨by rw [hU]; exact (kP_app.mp hP).1, kK_warm hW hK⟩) ⟨rfl, rfl, Nat.le_of_ble_eq_true rfl, Nat.le_of_ble_eq_true rfl⟩ rfl hl.1 rfl (Nat.le_of_ble_eq_true rfl) dX9_struck_24 ⟨Nat.le_of_ble_eq_true rfl, Nat.le_of_ble_eq_true rfl⟩) ?_
  refine top_i (x := crkd (upd r 0 (yNext r)) i ((fo r i (yNext r)) / 2) (yNext r)) (y := crkd r i (fo r i (yNext r) / 2) (yNext r)) (crkd_ne (by omega) (by omega) (by omega)) ?_
  refine lv_istore (lv' := [(5, .int (crkd r i (fo r i (yNext r) / 2) (yNext r))), (4, .int (fo r i (yNext r))), (3, .int (yNext r)), (0, .ref (a)), (1, .int (i)), (2, .int (j))]) hx hb dX9_struck_27 hl (by decide) rfl (fun ls hl => ?_)
  refine lv_aload_n hx hb dX9_struck_29 rfl (lv_at hl 3 rfl) ?_
  refine lv_bipush (v := 33) hx hb dX9_struck_30 rfl ?_
  refine lv_iload_n hx hb dX9_struck_32 rfl (lv_at hl 5 rfl) ?_
  refine lv_iadd hx hb dX9_struck_33 ?_
  refine lv_aload_n hx hb dX9_struck_34 rfl (lv_at hl 3 rfl) ?_
  refine lv_iload_n hx hb dX9_struck_35 rfl (lv_at hl 5 rfl) ?_
  refine lv_iload hx hb dX9_struck_36 (lv_at hl 1 rfl) ?_
  refine lv_iload_n hx hb dX9_struck_38 rfl (lv_at hl 2 rfl) ?_
  refine ro_i (run_S (As := [.ref (a), .int (j), .int (fo r i (yNext r)), .int (yNext r)]) (rest := [.int (33 + j), .ref (a)]) hC.1 ckX9_cracked (kX9_cracked l g a (upd r 0 (yNext r)) j (fo r i (yNext r)) (yNext r) hij) (gw_in m_1154 rfl) (fb_ro _ _ _) (fun U hU hW => ⟨by rw [hU]; exact (kP_app.mp hP).1, kK_warm hW hK⟩) ⟨rfl, rfl, Nat.le_of_ble_eq_true rfl, Nat.le_of_ble_eq_true rfl⟩ rfl hl.1 rfl (Nat.le_of_ble_eq_true rfl) dX9_struck_39 ⟨Nat.le_of_ble_eq_true rfl, Nat.le_of_ble_eq_true rfl⟩) ?_
  refine top_i (x := crkd (upd r 0 (yNext r)) j (fo r i (yNext r)) (yNext r)) (y := crkd r j (fo r i (yNext r)) (yNext r)) (crkd_ne (by omega) (by omega) (by omega)) ?_
  refine kast (B' := aW g a 45 (upd (upd r 0 (yNext r)) (33 + cl j) (crkd r j (fo r i (yNext r)) (yNext r)))) hC.1 hK hP hD hS 0 rfl (ix_in (K := 33) hij (by omega) (by omega)) (fun _ h => by rw [(show cl (33 + j) = 33 + cl j from ix_cl (K := 33) hij (by omega))] at h; exact h) aW_adr dX9_struck_42 (fun H locs hP hD hS => ?_)
  refine lv_aload_n hx hb dX9_struck_43 rfl (lv_at hl 3 rfl) ?_
  refine lv_bipush (v := 33) hx hb dX9_struck_44 rfl ?_
  refine lv_iload_n hx hb dX9_struck_46 rfl (lv_at hl 4 rfl) ?_
  refine lv_iadd hx hb dX9_struck_47 ?_
  refine lv_iload hx hb dX9_struck_48 (lv_at hl 0 rfl) ?_
  refine kast (B' := aW g a 45 (upd (upd (upd r 0 (yNext r)) (33 + cl j) (crkd r j (fo r i (yNext r)) (yNext r))) (33 + cl i) (crkd r i (fo r i (yNext r) / 2) (yNext r)))) hC.1 hK hP hD hS 0 rfl (ix_in (K := 33) hii (by omega) (by omega)) (fun _ h => by rw [(show cl (33 + i) = 33 + cl i from ix_cl (K := 33) hii (by omega))] at h; exact h) aW_adr dX9_struck_50 (fun H locs hP hD hS => ?_)
  have hP : kP g (aW g a 45 (stk3 r i j) ++ []) _ := kP_eq (by rw [show (stk3 r i j) = (upd (upd (upd r 0 (yNext r)) (33 + cl j) (crkd r j (fo r i (yNext r)) (yNext r))) (33 + cl i) (crkd r i (fo r i (yNext r) / 2) (yNext r))) from rfl]) hP
  have hD : va_D _ (aW g a 45 (stk3 r i j) ++ []) := vD_eq (by rw [show (stk3 r i j) = (upd (upd (upd r 0 (yNext r)) (33 + cl j) (crkd r j (fo r i (yNext r)) (yNext r))) (33 + cl i) (crkd r i (fo r i (yNext r) / 2) (yNext r))) from rfl]) hD
  refine lv_aload_n hx hb dX9_struck_51 rfl (lv_at hl 3 rfl) ?_
  refine lv_iload_n hx hb dX9_struck_52 rfl (lv_at hl 4 rfl) ?_
  refine ro_i (run_S (As := [.ref (a), .int (i)]) (rest := []) hC.1 ckX9_isBroken (kX9_isBroken l g a (stk3 r i j) i hii) (gw_in m_1133 rfl) (fb_ro _ _ _) (fun U hU hW => ⟨by rw [hU]; exact (kP_app.mp hP).1, kK_warm hW hK⟩) ⟨rfl, rfl, Nat.le_of_ble_eq_true rfl, Nat.le_of_ble_eq_true rfl⟩ rfl hl.1 rfl (Nat.le_of_ble_eq_true rfl) dX9_struck_53 ⟨Nat.le_of_ble_eq_true rfl, Nat.le_of_ble_eq_true rfl⟩) ?_
  refine lv_aload_n hx hb dX9_struck_56 rfl (lv_at hl 3 rfl) ?_
  refine lv_iload_n hx hb dX9_struck_57 rfl (lv_at hl 5 rfl) ?_
  refine ro_i (run_S (As := [.ref (a), .int (j)]) (rest := [.int (b2i (mBrk (stk3 r i j) i))]) hC.1 ckX9_isBroken (kX9_isBroken l g a (stk3 r i j) j hij) (gw_in m_1133 rfl) (fb_ro _ _ _) (fun U hU hW => ⟨by rw [hU]; exact (kP_app.mp hP).1, kK_warm hW hK⟩) ⟨rfl, rfl, Nat.le_of_ble_eq_true rfl, Nat.le_of_ble_eq_true rfl⟩ rfl hl.1 rfl (Nat.le_of_ble_eq_true rfl) dX9_struck_58 ⟨Nat.le_of_ble_eq_true rfl, Nat.le_of_ble_eq_true rfl⟩) ?_
  refine lv_icmp_eq (tgt := 94) hx hb dX9_struck_61 (by decide) (fun c1 => ?_) (fun c1 => ?_)
  · skip
    have c1 : mBrk (stk3 r i j) i = mBrk (stk3 r i j) j := b2i_inj.mp c1
    exact ret_rwv hx hb hr hlk (kP_eq (by rw [stk_eq c1]) hP) hS dX9_struck_94
  · skip
    have c1 : ¬ (mBrk (stk3 r i j) i = mBrk (stk3 r i j) j) := fun h => c1 (b2i_inj.mpr h)
    refine lv_aload_n hx hb dX9_struck_64 rfl (lv_at hl 3 rfl) ?_
    refine lv_aload_n hx hb dX9_struck_65 rfl (lv_at hl 3 rfl) ?_
    refine lv_iload_n hx hb dX9_struck_66 rfl (lv_at hl 4 rfl) ?_
    refine ro_i (run_S (As := [.ref (a), .int (i)]) (rest := [.ref (a)]) hC.1 ckX9_isBroken (kX9_isBroken l g a (stk3 r i j) i hii) (gw_in m_1133 rfl) (fb_ro _ _ _) (fun U hU hW => ⟨by rw [hU]; exact (kP_app.mp hP).1, kK_warm hW hK⟩) ⟨rfl, rfl, Nat.le_of_ble_eq_true rfl, Nat.le_of_ble_eq_true rfl⟩ rfl hl.1 rfl (Nat.le_of_ble_eq_true rfl) dX9_struck_67 ⟨Nat.le_of_ble_eq_true rfl, Nat.le_of_ble_eq_true rfl⟩) ?_
    refine lv_if_eq (tgt := 77) hx hb dX9_struck_70 (by decide) (fun c2 => ?_) (fun c2 => ?_)
    · skip
      have c2 := b2i_0 c2
      refine lv_iload_n hx hb dX9_struck_77 rfl (lv_at hl 4 rfl) ?_
      refine lv_aload_n hx hb dX9_struck_78 rfl (lv_at hl 3 rfl) ?_
      refine lv_iload_n hx hb dX9_struck_79 rfl (lv_at hl 4 rfl) ?_
      refine ro_i (run_S (As := [.ref (a), .int (i)]) (rest := [.int (i), .ref (a)]) hC.1 ckX9_isBroken (kX9_isBroken l g a (stk3 r i j) i hii) (gw_in m_1133 rfl) (fb_ro _ _ _) (fun U hU hW => ⟨by rw [hU]; exact (kP_app.mp hP).1, kK_warm hW hK⟩) ⟨rfl, rfl, Nat.le_of_ble_eq_true rfl, Nat.le_of_ble_eq_true rfl⟩ rfl hl.1 rfl (Nat.le_of_ble_eq_true rfl) dX9_struck_80 ⟨Nat.le_of_ble_eq_true rfl, Nat.le_of_ble_eq_true rfl⟩) ?_
      refine lv_if_eq (tgt := 90) hx hb dX9_struck_83 (by decide) (fun c3 => ?_) (fun c3 => ?_)
      · skip
        have c3 := b2i_0 c3
        refine lv_iload_n hx hb dX9_struck_90 rfl (lv_at hl 5 rfl) ?_
        refine rw_v (run_S (As := [.ref (a), .int (i), .int (j)]) (rest := []) hC.1 ckX9_scores (kX9_scores l g a (stk3 r i j) i j hii hij) (gw_in m_1160 rfl) (fb_rw _ _ _) (fun U hU hW => ⟨by rw [hU]; exact (kP_app.mpr ⟨(kP_app.mp hP).1, kP_nil⟩), kK_warm hW hK, vD_sub (sbA _ (sb0 _)) hD⟩) ⟨rfl, rfl, Nat.le_of_ble_eq_true rfl, Nat.le_of_ble_eq_true rfl⟩ rfl hl.1 rfl (Nat.le_of_ble_eq_true rfl) dX9_struck_91 ⟨Nat.le_of_ble_eq_true rfl, Nat.le_of_ble_eq_true rfl⟩) (adr_app aW_adr rfl) (asc1 _ _) (ww' := aW g a 45 (scF (stk3 r i j) i j) ++ []) (asc1 _ _) hP hD hS (fun H locs hP hD hS => ?_)
        exact ret_rwv hx hb hr hlk (kP_eq (by rw [stk_ij c1 c2]) hP) hS dX9_struck_94
      · skip
        have c3 := b2i_1 c3
        exact absurd c2 (by rw [c3]; decide)
    · skip
      have c2 := b2i_1 c2
      refine lv_iload_n hx hb dX9_struck_73 rfl (lv_at hl 5 rfl) ?_
      refine lv_goto (tgt := 78) hx hb dX9_struck_74 (by decide) ?_
      refine lv_aload_n hx hb dX9_struck_78 rfl (lv_at hl 3 rfl) ?_
      refine lv_iload_n hx hb dX9_struck_79 rfl (lv_at hl 4 rfl) ?_
      refine ro_i (run_S (As := [.ref (a), .int (i)]) (rest := [.int (j), .ref (a)]) hC.1 ckX9_isBroken (kX9_isBroken l g a (stk3 r i j) i hii) (gw_in m_1133 rfl) (fb_ro _ _ _) (fun U hU hW => ⟨by rw [hU]; exact (kP_app.mp hP).1, kK_warm hW hK⟩) ⟨rfl, rfl, Nat.le_of_ble_eq_true rfl, Nat.le_of_ble_eq_true rfl⟩ rfl hl.1 rfl (Nat.le_of_ble_eq_true rfl) dX9_struck_80 ⟨Nat.le_of_ble_eq_true rfl, Nat.le_of_ble_eq_true rfl⟩) ?_
      refine lv_if_eq (tgt := 90) hx hb dX9_struck_83 (by decide) (fun c4 => ?_) (fun c4 => ?_)
      · skip
        have c4 := b2i_0 c4
        exact absurd c2 (by rw [c4]; decide)
      · skip
        have c4 := b2i_1 c4
        refine lv_iload_n hx hb dX9_struck_86 rfl (lv_at hl 4 rfl) ?_
        refine lv_goto (tgt := 91) hx hb dX9_struck_87 (by decide) ?_
        refine rw_v (run_S (As := [.ref (a), .int (j), .int (i)]) (rest := []) hC.1 ckX9_scores (kX9_scores l g a (stk3 r i j) j i hij hii) (gw_in m_1160 rfl) (fb_rw _ _ _) (fun U hU hW => ⟨by rw [hU]; exact (kP_app.mpr ⟨(kP_app.mp hP).1, kP_nil⟩), kK_warm hW hK, vD_sub (sbA _ (sb0 _)) hD⟩) ⟨rfl, rfl, Nat.le_of_ble_eq_true rfl, Nat.le_of_ble_eq_true rfl⟩ rfl hl.1 rfl (Nat.le_of_ble_eq_true rfl) dX9_struck_91 ⟨Nat.le_of_ble_eq_true rfl, Nat.le_of_ble_eq_true rfl⟩) (adr_app aW_adr rfl) (asc1 _ _) (ww' := aW g a 45 (scF (stk3 r i j) j i) ++ []) (asc1 _ _) hP hD hS (fun H locs hP hD hS => ?_)
        exact ret_rwv hx hb hr hlk (kP_eq (by rw [stk_ji c1 c2]) hP) hS dX9_struck_94
set_option maxHeartbeats 4000000 in
set_option maxRecDepth 100000 in
theorem kX9_leftOf (l : Launch) (g : gG) (a : Nat) (r : Nat → Int32) (i j : Int32) (hi : vp_in i 6) (hj : vp_in j 6) : Met l yX9_leftOf (.code yX9_leftOf cX9_leftOf 3 (some .int) :: gw) (rmN 1) (va_Pc [.ref (a), .int (i), .int (j)] (roPre g (aW g a 45 r))) (vp_Si (fun v => v = (mLeft r i j))) 0 0 (fun _ => False) := by
  refine met_start (by decide) (Nat.le_of_ble_eq_true rfl) ?_
  intro pp ee ss mm bl mt cd hC hpre ls hl
  obtain ⟨⟨hx, hb, hml, hown, hts⟩, hr, hlk, hnm⟩ := id hC
  have hl : lv_has ls 3 [(0, .ref (a)), (1, .int (i)), (2, .int (j))] := hl
  obtain ⟨hP, hK⟩ := hpre
  refine lv_aload_n hx hb dX9_leftOf_0 rfl (lv_at hl 0 rfl) ?_
  refine lv_iload_n hx hb dX9_leftOf_1 rfl (lv_at hl 1 rfl) ?_
  refine ro_i (run_S (As := [.ref (a), .int (i)]) (rest := []) hC.1 ckX9_isBroken (kX9_isBroken l g a r i hi) (gw_in m_1133 rfl) (fb_ro _ _ _) (fun U hU hW => ⟨by rw [hU]; exact hP, kK_warm hW hK⟩) ⟨rfl, rfl, Nat.le_of_ble_eq_true rfl, Nat.le_of_ble_eq_true rfl⟩ rfl hl.1 rfl (Nat.le_of_ble_eq_true rfl) dX9_leftOf_2 ⟨Nat.le_of_ble_eq_true rfl, Nat.le_of_ble_eq_true rfl⟩) ?_
  refine lv_aload_n hx hb dX9_leftOf_5 rfl (lv_at hl 0 rfl) ?_
  refine lv_iload_n hx hb dX9_leftOf_6 rfl (lv_at hl 2 rfl) ?_
  refine ro_i (run_S (As := [.ref (a), .int (j)]) (rest := [.int (b2i (mBrk r i))]) hC.1 ckX9_isBroken (kX9_isBroken l g a r j hj) (gw_in m_1133 rfl) (fb_ro _ _ _) (fun U hU hW => ⟨by rw [hU]; exact hP, kK_warm hW hK⟩) ⟨rfl, rfl, Nat.le_of_ble_eq_true rfl, Nat.le_of_ble_eq_true rfl⟩ rfl hl.1 rfl (Nat.le_of_ble_eq_true rfl) dX9_leftOf_7 ⟨Nat.le_of_ble_eq_true rfl, Nat.le_of_ble_eq_true rfl⟩) ?_
  refine lv_icmp_ne (tgt := 17) hx hb dX9_leftOf_10 (by decide) (fun c1 => ?_) (fun c1 => ?_)
  · skip
    have c1 : ¬ (mBrk r i = mBrk r j) := fun h => c1 (b2i_inj.mpr h)
    refine lv_aload_n hx hb dX9_leftOf_17 rfl (lv_at hl 0 rfl) ?_
    refine lv_iload_n hx hb dX9_leftOf_18 rfl (lv_at hl 1 rfl) ?_
    refine ro_i (run_S (As := [.ref (a), .int (i)]) (rest := []) hC.1 ckX9_isBroken (kX9_isBroken l g a r i hi) (gw_in m_1133 rfl) (fb_ro _ _ _) (fun U hU hW => ⟨by rw [hU]; exact hP, kK_warm hW hK⟩) ⟨rfl, rfl, Nat.le_of_ble_eq_true rfl, Nat.le_of_ble_eq_true rfl⟩ rfl hl.1 rfl (Nat.le_of_ble_eq_true rfl) dX9_leftOf_19 ⟨Nat.le_of_ble_eq_true rfl, Nat.le_of_ble_eq_true rfl⟩) ?_
    refine lv_if_eq (tgt := 29) hx hb dX9_leftOf_22 (by decide) (fun c2 => ?_) (fun c2 => ?_)
    · skip
      have c2 := b2i_0 c2
      refine lv_iload_n hx hb dX9_leftOf_29 rfl (lv_at hl 1 rfl) ?_
      exact ret_roi hx hb hr hlk (by unfold mLeft; rw [if_neg c1, if_neg (by rw [c2]; decide)]) dX9_leftOf_30
    · skip
      have c2 := b2i_1 c2
      refine lv_iload_n hx hb dX9_leftOf_25 rfl (lv_at hl 2 rfl) ?_
      refine lv_goto (tgt := 30) hx hb dX9_leftOf_26 (by decide) ?_
      exact ret_roi hx hb hr hlk (by unfold mLeft; rw [if_neg c1, if_pos c2]) dX9_leftOf_30
  · skip
    have c1 : mBrk r i = mBrk r j := b2i_inj.mp c1
    refine lv_iconst (v := -1) hx hb dX9_leftOf_13 rfl ?_
    refine lv_goto (tgt := 30) hx hb dX9_leftOf_14 (by decide) ?_
    exact ret_roi hx hb hr hlk (by unfold mLeft; rw [if_pos c1]) dX9_leftOf_30
