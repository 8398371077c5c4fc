theorem ckX8_within : ckS yX8_within cX8_within 3 (some .boolean) 3 := ⟨(gw_in m_319 rfl), (gw_in m_62 rfl), (gw_in m_318 rfl), by decide +kernel, by decide +kernel, by decide +kernel⟩
theorem ckX9_in : ckS yX9_in cX9_in 3 (some .boolean) 3 := ⟨(gw_in m_1040 rfl), (gw_in m_71 rfl), (gw_in m_1039 rfl), by decide +kernel, by decide +kernel, by decide +kernel⟩
theorem ckX8_has : ckS yX8_has cX8_has 2 (some .boolean) 2 := ⟨(gw_in m_699 rfl), (gw_in m_62 rfl), (gw_in m_698 rfl), by decide +kernel, by decide +kernel, by decide +kernel⟩
theorem ckX8_isKind : ckS yX8_isKind cX8_isKind 1 (some .boolean) 1 := ⟨(gw_in m_342 rfl), (gw_in m_62 rfl), (gw_in m_341 rfl), by decide +kernel, by decide +kernel, by decide +kernel⟩
theorem ckX8_isSight : ckS yX8_isSight cX8_isSight 4 (some .boolean) 4 := ⟨(gw_in m_741 rfl), (gw_in m_62 rfl), (gw_in m_740 rfl), by decide +kernel, by decide +kernel, by decide +kernel⟩
theorem ckX0_force : ckS yX0_force cX0_force 7 (some .int) 4 := ⟨(gw_in m_526 rfl), (gw_in m_76 rfl), (gw_in m_525 rfl), by decide +kernel, by decide +kernel, by decide +kernel⟩
theorem ckX9_forceBy : ckS yX9_forceBy cX9_forceBy 6 (some .int) 4 := ⟨(gw_in m_1153 rfl), (gw_in m_71 rfl), (gw_in m_1152 rfl), by decide +kernel, by decide +kernel, by decide +kernel⟩
theorem ckX9_cracksBy : ckS yX9_cracksBy cX9_cracksBy 7 (some .int) 5 := ⟨(gw_in m_1159 rfl), (gw_in m_71 rfl), (gw_in m_1158 rfl), by decide +kernel, by decide +kernel, by decide +kernel⟩
theorem ckX7_isNut : ckV yX7_isNut cX7_isNut 2 (some .boolean) 1 := ⟨(gw_in m_505 rfl), (gw_in m_64 rfl), ⟨(gw_in m_503 rfl), (gw_in m_504 rfl)⟩, by decide +kernel, by decide +kernel, by decide +kernel⟩
theorem ckX7_isPlayer : ckV yX7_isPlayer cX7_isPlayer 2 (some .boolean) 1 := ⟨(gw_in m_359 rfl), (gw_in m_64 rfl), ⟨(gw_in m_357 rfl), (gw_in m_358 rfl)⟩, by decide +kernel, by decide +kernel, by decide +kernel⟩
theorem ckX7_isBroken : ckV yX7_isBroken cX7_isBroken 2 (some .boolean) 1 := ⟨(gw_in m_501 rfl), (gw_in m_64 rfl), ⟨(gw_in m_499 rfl), (gw_in m_500 rfl)⟩, by decide +kernel, by decide +kernel, by decide +kernel⟩
set_option maxHeartbeats 4000000 in
set_option maxRecDepth 100000 in
theorem kX8_within (l : Launch) (x lo hi : Int32) : Met l yX8_within (.code yX8_within cX8_within 3 (some .boolean) :: gw) (rmN 0) (va_Pc [.int (x), .int (lo), .int (hi)] (fun _ => True)) (vp_Si (fun v => v = (b2i (wth x lo hi)))) 0 0 (fun _ => False) := by
  refine met_start (by decide) (Nat.le_of_ble_eq_true rfl) ?_
  intro pp ee ss mm bl mt cd hC hpre ls hl
  obtain ⟨⟨hx, hb, hml, hown, hts⟩, hr, hlk, hnm⟩ := id hC
  have hl : lv_has ls 3 [(0, .int (x)), (1, .int (lo)), (2, .int (hi))] := hl
  refine lv_iload_n hx hb dX8_within_0 rfl (lv_at hl 1 rfl) ?_
  refine lv_iload_n hx hb dX8_within_1 rfl (lv_at hl 0 rfl) ?_
  refine lv_icmp_gt (tgt := 14) hx hb dX8_within_2 (by decide) (fun c1 => ?_) (fun c1 => ?_)
  · skip
    have c1' := Int32.not_le.mpr c1
    refine lv_iconst (v := 0) hx hb dX8_within_14 rfl ?_
    exact ret_roz hx hb hr hlk rfl (by first | (simp [wth, b2i, Int32.not_le, Int32.not_lt, c1, c1']; done) | (clear hx hb hr hlk hnm hml hown hts hC hl; simp_all [wth, b2i, Int32.not_le, Int32.not_lt])) dX8_within_15
  · skip
    have c1' := Int32.not_lt.mp c1
    refine lv_iload_n hx hb dX8_within_5 rfl (lv_at hl 0 rfl) ?_
    refine lv_iload_n hx hb dX8_within_6 rfl (lv_at hl 2 rfl) ?_
    refine lv_icmp_gt (tgt := 14) hx hb dX8_within_7 (by decide) (fun c2 => ?_) (fun c2 => ?_)
    · skip
      have c2' := Int32.not_le.mpr c2
      refine lv_iconst (v := 0) hx hb dX8_within_14 rfl ?_
      exact ret_roz hx hb hr hlk rfl (by first | (simp [wth, b2i, Int32.not_le, Int32.not_lt, c1, c1', c2, c2']; done) | (clear hx hb hr hlk hnm hml hown hts hC hl; simp_all [wth, b2i, Int32.not_le, Int32.not_lt])) dX8_within_15
    · skip
      have c2' := Int32.not_lt.mp c2
      refine lv_iconst (v := 1) hx hb dX8_within_10 rfl ?_
      refine lv_goto (tgt := 15) hx hb dX8_within_11 (by decide) ?_
      exact ret_roz hx hb hr hlk rfl (by first | (simp [wth, b2i, Int32.not_le, Int32.not_lt, c1, c1', c2, c2']; done) | (clear hx hb hr hlk hnm hml hown hts hC hl; simp_all [wth, b2i, Int32.not_le, Int32.not_lt])) dX8_within_15
set_option maxHeartbeats 4000000 in
set_option maxRecDepth 100000 in
theorem kX9_in (l : Launch) (x lo hi : Int32) : Met l yX9_in (.code yX9_in cX9_in 3 (some .boolean) :: gw) (rmN 0) (va_Pc [.int (x), .int (lo), .int (hi)] (fun _ => True)) (vp_Si (fun v => v = (b2i (wth x lo hi)))) 0 0 (fun _ => False) := by
  refine met_start (by decide) (Nat.le_of_ble_eq_true rfl) ?_
  intro pp ee ss mm bl mt cd hC hpre ls hl
  obtain ⟨⟨hx, hb, hml, hown, hts⟩, hr, hlk, hnm⟩ := id hC
  have hl : lv_has ls 3 [(0, .int (x)), (1, .int (lo)), (2, .int (hi))] := hl
  refine lv_iload_n hx hb dX9_in_0 rfl (lv_at hl 0 rfl) ?_
  refine lv_iload_n hx hb dX9_in_1 rfl (lv_at hl 1 rfl) ?_
  refine lv_icmp_lt (tgt := 14) hx hb dX9_in_2 (by decide) (fun c1 => ?_) (fun c1 => ?_)
  · skip
    have c1' := Int32.not_le.mpr c1
    refine lv_iconst (v := 0) hx hb dX9_in_14 rfl ?_
    exact ret_roz hx hb hr hlk rfl (by first | (simp [wth, b2i, Int32.not_le, Int32.not_lt, c1, c1']; done) | (clear hx hb hr hlk hnm hml hown hts hC hl; simp_all [wth, b2i, Int32.not_le, Int32.not_lt])) dX9_in_15
  · skip
    have c1' := Int32.not_lt.mp c1
    refine lv_iload_n hx hb dX9_in_5 rfl (lv_at hl 0 rfl) ?_
    refine lv_iload_n hx hb dX9_in_6 rfl (lv_at hl 2 rfl) ?_
    refine lv_icmp_gt (tgt := 14) hx hb dX9_in_7 (by decide) (fun c2 => ?_) (fun c2 => ?_)
    · skip
      have c2' := Int32.not_le.mpr c2
      refine lv_iconst (v := 0) hx hb dX9_in_14 rfl ?_
      exact ret_roz hx hb hr hlk rfl (by first | (simp [wth, b2i, Int32.not_le, Int32.not_lt, c1, c1', c2, c2']; done) | (clear hx hb hr hlk hnm hml hown hts hC hl; simp_all [wth, b2i, Int32.not_le, Int32.not_lt])) dX9_in_15
    · skip
      have c2' := Int32.not_lt.mp c2
      refine lv_iconst (v := 1) hx hb dX9_in_10 rfl ?_
      refine lv_goto (tgt := 15) hx hb dX9_in_11 (by decide) ?_
      exact ret_roz hx hb hr hlk rfl (by first | (simp [wth, b2i, Int32.not_le, Int32.not_lt, c1, c1', c2, c2']; done) | (clear hx hb hr hlk hnm hml hown hts hC hl; simp_all [wth, b2i, Int32.not_le, Int32.not_lt])) dX9_in_15
set_option maxHeartbeats 4000000 in
set_option maxRecDepth 100000 in
theorem kX8_has (l : Launch) (b k : Int32) : Met l yX8_has (.code yX8_has cX8_has 2 (some .boolean) :: gw) (rmN 0) (va_Pc [.int (b), .int (k)] (fun _ => True)) (vp_Si (fun v => v = (b2i (hasB b k)))) 0 0 (fun _ => False) := by
  refine met_start (by decide) (Nat.le_of_ble_eq_true rfl) ?_
  intro pp ee ss mm bl mt cd hC hpre ls hl
  obtain ⟨⟨hx, hb, hml, hown, hts⟩, hr, hlk, hnm⟩ := id hC
  have hl : lv_has ls 2 [(0, .int (b)), (1, .int (k))] := hl
  refine lv_iload_n hx hb dX8_has_0 rfl (lv_at hl 0 rfl) ?_
  refine lv_iload_n hx hb dX8_has_1 rfl (lv_at hl 1 rfl) ?_
  refine lv_ishr hx hb dX8_has_2 ?_
  refine lv_iconst (v := 1) hx hb dX8_has_3 rfl ?_
  refine lv_iand hx hb dX8_has_4 ?_
  refine lv_if_eq (tgt := 12) hx hb dX8_has_5 (by decide) (fun c1 => ?_) (fun c1 => ?_)
  · skip
    refine lv_iconst (v := 0) hx hb dX8_has_12 rfl ?_
    exact ret_roz hx hb hr hlk rfl (by first | (simp [hasB, b2i, Int32.not_le, Int32.not_lt, c1]; done) | (clear hx hb hr hlk hnm hml hown hts hC hl; simp_all [hasB, b2i, Int32.not_le, Int32.not_lt])) dX8_has_13
  · skip
    refine lv_iconst (v := 1) hx hb dX8_has_8 rfl ?_
    refine lv_goto (tgt := 13) hx hb dX8_has_9 (by decide) ?_
    exact ret_roz hx hb hr hlk rfl (by first | (simp [hasB, b2i, Int32.not_le, Int32.not_lt, c1]; done) | (clear hx hb hr hlk hnm hml hown hts hC hl; simp_all [hasB, b2i, Int32.not_le, Int32.not_lt])) dX8_has_13
set_option maxHeartbeats 4000000 in
set_option maxRecDepth 100000 in
theorem kX8_isKind (l : Launch) (k : Int32) : Met l yX8_isKind (.code yX8_isKind cX8_isKind 1 (some .boolean) :: gw) (rmN 1) (va_Pc [.int (k)] (fun _ => True)) (vp_Si (fun v => v = (b2i (wth k 0 5)))) 0 0 (fun _ => False) := by
  refine met_start (by decide) (Nat.le_of_ble_eq_true rfl) ?_
  intro pp ee ss mm bl mt cd hC hpre ls hl
  obtain ⟨⟨hx, hb, hml, hown, hts⟩, hr, hlk, hnm⟩ := id hC
  have hl : lv_has ls 1 [(0, .int (k))] := hl
  refine lv_iload_n hx hb dX8_isKind_0 rfl (lv_at hl 0 rfl) ?_
  refine lv_iconst (v := 0) hx hb dX8_isKind_1 rfl ?_
  refine lv_iconst (v := 5) hx hb dX8_isKind_2 rfl ?_
  refine ro_i (run_S (As := [.int (k), .int (0), .int (5)]) (rest := []) hC.1 ckX8_within (kX8_within l k 0 5) (gw_in m_317 rfl) (fb_nil _) (fun _ _ _ => trivial) ⟨rfl, rfl, Nat.le_of_ble_eq_true rfl, Nat.le_of_ble_eq_true rfl⟩ rfl hl.1 rfl (Nat.le_of_ble_eq_true rfl) dX8_isKind_3 ⟨Nat.le_of_ble_eq_true rfl, Nat.le_of_ble_eq_true rfl⟩) ?_
  exact ret_roz hx hb hr hlk rfl (by rfl) dX8_isKind_6
set_option maxHeartbeats 4000000 in
set_option maxRecDepth 100000 in
theorem kX8_isSight (l : Launch) (t c f x : Int32) : Met l yX8_isSight (.code yX8_isSight cX8_isSight 4 (some .boolean) :: gw) (rmN 1) (va_Pc [.int (t), .int (c), .int (f), .int (x)] (fun _ => True)) (vp_Si (fun v => v = (b2i (wth t 0 99 && wth c 0 9 && wth f 0 44 && wth x 0 60)))) 0 0 (fun _ => False) := by
  refine met_start (by decide) (Nat.le_of_ble_eq_true rfl) ?_
  intro pp ee ss mm bl mt cd hC hpre ls hl
  obtain ⟨⟨hx, hb, hml, hown, hts⟩, hr, hlk, hnm⟩ := id hC
  have hl : lv_has ls 4 [(0, .int (t)), (1, .int (c)), (2, .int (f)), (3, .int (x))] := hl
  refine lv_iload_n hx hb dX8_isSight_0 rfl (lv_at hl 0 rfl) ?_
  refine lv_iconst (v := 0) hx hb dX8_isSight_1 rfl ?_
  refine lv_bipush (v := 99) hx hb dX8_isSight_2 rfl ?_
  refine ro_i (run_S (As := [.int (t), .int (0), .int (99)]) (rest := []) hC.1 ckX8_within (kX8_within l t 0 99) (gw_in m_317 rfl) (fb_nil _) (fun _ _ _ => trivial) ⟨rfl, rfl, Nat.le_of_ble_eq_true rfl, Nat.le_of_ble_eq_true rfl⟩ rfl hl.1 rfl (Nat.le_of_ble_eq_true rfl) dX8_isSight_4 ⟨Nat.le_of_ble_eq_true rfl, Nat.le_of_ble_eq_true rfl⟩) ?_
  refine lv_if_eq (tgt := 44) hx hb dX8_isSight_7 (by decide) (fun c1 => ?_) (fun c1 => ?_)
  · skip
    have c1 := b2i_0 c1
    refine lv_iconst (v := 0) hx hb dX8_isSight_44 rfl ?_
    exact ret_roz hx hb hr hlk rfl (by first | (simp [b2i, Int32.not_le, Int32.not_lt, c1]; done) | (clear hx hb hr hlk hnm hml hown hts hC hl; simp_all [b2i, Int32.not_le, Int32.not_lt])) dX8_isSight_45
  · skip
    have c1 := b2i_1 c1
    refine lv_iload_n hx hb dX8_isSight_10 rfl (lv_at hl 1 rfl) ?_
    refine lv_iconst (v := 0) hx hb dX8_isSight_11 rfl ?_
    refine lv_bipush (v := 9) hx hb dX8_isSight_12 rfl ?_
    refine ro_i (run_S (As := [.int (c), .int (0), .int (9)]) (rest := []) hC.1 ckX8_within (kX8_within l c 0 9) (gw_in m_317 rfl) (fb_nil _) (fun _ _ _ => trivial) ⟨rfl, rfl, Nat.le_of_ble_eq_true rfl, Nat.le_of_ble_eq_true rfl⟩ rfl hl.1 rfl (Nat.le_of_ble_eq_true rfl) dX8_isSight_14 ⟨Nat.le_of_ble_eq_true rfl, Nat.le_of_ble_eq_true rfl⟩) ?_
    refine lv_if_eq (tgt := 44) hx hb dX8_isSight_17 (by decide) (fun c2 => ?_) (fun c2 => ?_)
    · skip
      have c2 := b2i_0 c2
      refine lv_iconst (v := 0) hx hb dX8_isSight_44 rfl ?_
      exact ret_roz hx hb hr hlk rfl (by first | (simp [b2i, Int32.not_le, Int32.not_lt, c1, c2]; done) | (clear hx hb hr hlk hnm hml hown hts hC hl; simp_all [b2i, Int32.not_le, Int32.not_lt])) dX8_isSight_45
    · skip
      have c2 := b2i_1 c2
      refine lv_iload_n hx hb dX8_isSight_20 rfl (lv_at hl 2 rfl) ?_
      refine lv_iconst (v := 0) hx hb dX8_isSight_21 rfl ?_
      refine lv_bipush (v := 44) hx hb dX8_isSight_22 rfl ?_
      refine ro_i (run_S (As := [.int (f), .int (0), .int (44)]) (rest := []) hC.1 ckX8_within (kX8_within l f 0 44) (gw_in m_317 rfl) (fb_nil _) (fun _ _ _ => trivial) ⟨rfl, rfl, Nat.le_of_ble_eq_true rfl, Nat.le_of_ble_eq_true rfl⟩ rfl hl.1 rfl (Nat.le_of_ble_eq_true rfl) dX8_isSight_24 ⟨Nat.le_of_ble_eq_true rfl, Nat.le_of_ble_eq_true rfl⟩) ?_
      refine lv_if_eq (tgt := 44) hx hb dX8_isSight_27 (by decide) (fun c3 => ?_) (fun c3 => ?_)
      · skip
        have c3 := b2i_0 c3
        refine lv_iconst (v := 0) hx hb dX8_isSight_44 rfl ?_
        exact ret_roz hx hb hr hlk rfl (by first | (simp [b2i, Int32.not_le, Int32.not_lt, c1, c2, c3]; done) | (clear hx hb hr hlk hnm hml hown hts hC hl; simp_all [b2i, Int32.not_le, Int32.not_lt])) dX8_isSight_45
      · skip
        have c3 := b2i_1 c3
        refine lv_iload_n hx hb dX8_isSight_30 rfl (lv_at hl 3 rfl) ?_
        refine lv_iconst (v := 0) hx hb dX8_isSight_31 rfl ?_
        refine lv_bipush (v := 60) hx hb dX8_isSight_32 rfl ?_
        refine ro_i (run_S (As := [.int (x), .int (0), .int (60)]) (rest := []) hC.1 ckX8_within (kX8_within l x 0 60) (gw_in m_317 rfl) (fb_nil _) (fun _ _ _ => trivial) ⟨rfl, rfl, Nat.le_of_ble_eq_true rfl, Nat.le_of_ble_eq_true rfl⟩ rfl hl.1 rfl (Nat.le_of_ble_eq_true rfl) dX8_isSight_34 ⟨Nat.le_of_ble_eq_true rfl, Nat.le_of_ble_eq_true rfl⟩) ?_
        refine lv_if_eq (tgt := 44) hx hb dX8_isSight_37 (by decide) (fun c4 => ?_) (fun c4 => ?_)
        · skip
          have c4 := b2i_0 c4
          refine lv_iconst (v := 0) hx hb dX8_isSight_44 rfl ?_
          exact ret_roz hx hb hr hlk rfl (by first | (simp [b2i, Int32.not_le, Int32.not_lt, c1, c2, c3, c4]; done) | (clear hx hb hr hlk hnm hml hown hts hC hl; simp_all [b2i, Int32.not_le, Int32.not_lt])) dX8_isSight_45
        · skip
          have c4 := b2i_1 c4
          refine lv_iconst (v := 1) hx hb dX8_isSight_40 rfl ?_
          refine lv_goto (tgt := 45) hx hb dX8_isSight_41 (by decide) ?_
          exact ret_roz hx hb hr hlk rfl (by first | (simp [b2i, Int32.not_le, Int32.not_lt, c1, c2, c3, c4]; done) | (clear hx hb hr hlk hnm hml hown hts hC hl; simp_all [b2i, Int32.not_le, Int32.not_lt])) dX8_isSight_45
set_option maxHeartbeats 4000000 in
set_option maxRecDepth 100000 in
theorem kX0_force (l : Launch) (k a w t : Int32) : Met l yX0_force (.code yX0_force cX0_force 7 (some .int) :: gw) (rmN 1) (va_Pc [.int (k), .int (a), .int (w), .int (t)] (fun _ => True)) (vp_Si (fun v => v = (frc k a w t))) 0 0 (fun _ => False) := by
  refine met_start (by decide) (Nat.le_of_ble_eq_true rfl) ?_
  intro pp ee ss mm bl mt cd hC hpre ls hl
  obtain ⟨⟨hx, hb, hml, hown, hts⟩, hr, hlk, hnm⟩ := id hC
  have hl : lv_has ls 7 [(0, .int (k)), (1, .int (a)), (2, .int (w)), (3, .int (t))] := hl
  refine lv_iload_n hx hb dX0_force_0 rfl (lv_at hl 1 rfl) ?_
  refine lv_iload_n hx hb dX0_force_1 rfl (lv_at hl 2 rfl) ?_
  refine lv_iadd hx hb dX0_force_2 ?_
  refine lv_istore (lv' := [(4, .int (a + w)), (0, .int (k)), (1, .int (a)), (2, .int (w)), (3, .int (t))]) hx hb dX0_force_3 hl (by decide) rfl (fun ls hl => ?_)
  refine lv_iload hx hb dX0_force_5 (lv_at hl 0 rfl) ?_
  refine lv_iconst (v := 3) hx hb dX0_force_7 rfl ?_
  refine lv_iadd hx hb dX0_force_8 ?_
  refine lv_istore (lv' := [(5, .int ((a + w) + 3)), (4, .int (a + w)), (0, .int (k)), (1, .int (a)), (2, .int (w)), (3, .int (t))]) hx hb dX0_force_9 hl (by decide) rfl (fun ls hl => ?_)
  refine lv_iload_n hx hb dX0_force_11 rfl (lv_at hl 5 rfl) ?_
  refine lv_iconst (v := 3) hx hb dX0_force_12 rfl ?_
  refine lv_irem hx hb dX0_force_13 (by decide) ?_
  refine lv_iconst (v := 2) hx hb dX0_force_14 rfl ?_
  refine lv_icmp_ne (tgt := 25) hx hb dX0_force_15 (by decide) (fun c1 => ?_) (fun c1 => ?_)
  · skip
    refine lv_iload hx hb dX0_force_25 (lv_at hl 1 rfl) ?_
    refine lv_istore (lv' := [(6, .int (a + w)), (5, .int ((a + w) + 3)), (4, .int (a + w)), (0, .int (k)), (1, .int (a)), (2, .int (w)), (3, .int (t))]) hx hb dX0_force_27 hl (by decide) rfl (fun ls hl => ?_)
    refine lv_iload_n hx hb dX0_force_29 rfl (lv_at hl 3 rfl) ?_
    by_cases k2 : k = 1
    · skip
      refine lv_tableIn (x := k) (tgt := 64) hx hb dX0_force_30 (by rw [k2]; decide) (by rw [k2]; decide) (by rw [k2]; rfl) (by decide) ?_
      refine lv_iload hx hb dX0_force_64 (lv_at hl 1 rfl) ?_
      exact ret_roi hx hb hr hlk (by first | (simp [frc, Int32.not_le, Int32.not_lt, c1, k2]; done) | (clear hx hb hr hlk hnm hml hown hts hC hl; simp_all [frc, Int32.not_le, Int32.not_lt])) dX0_force_66
    by_cases k3 : k = 2
    · skip
      refine lv_tableIn (x := k) (tgt := 67) hx hb dX0_force_30 (by rw [k3]; decide) (by rw [k3]; decide) (by rw [k3]; rfl) (by decide) ?_
      refine lv_iload hx hb dX0_force_67 (lv_at hl 0 rfl) ?_
      exact ret_roi hx hb hr hlk (by first | (simp [frc, Int32.not_le, Int32.not_lt, c1, k3]; done) | (clear hx hb hr hlk hnm hml hown hts hC hl; simp_all [frc, Int32.not_le, Int32.not_lt])) dX0_force_69
    by_cases k4 : k = 3
    · skip
      refine lv_tableIn (x := k) (tgt := 70) hx hb dX0_force_30 (by rw [k4]; decide) (by rw [k4]; decide) (by rw [k4]; rfl) (by decide) ?_
      refine lv_iconst (v := 1) hx hb dX0_force_70 rfl ?_
      refine lv_iload hx hb dX0_force_71 (lv_at hl 1 rfl) ?_
      refine lv_iload_n hx hb dX0_force_73 rfl (lv_at hl 6 rfl) ?_
      refine lv_iconst (v := 5) hx hb dX0_force_74 rfl ?_
      refine lv_idiv hx hb dX0_force_75 (by decide) ?_
      refine lv_isub hx hb dX0_force_76 ?_
      refine va_mmax hx hb (hml.trans hl.1.symm) hown (hts _ (gw_in m_527 rfl)) (hts _ (gw_in m_528 rfl)) (hts _ (gw_in m_67 rfl)) (hts _ (gw_in m_529 rfl)) (Nat.le_of_ble_eq_true rfl) (Nat.le_of_ble_eq_true rfl) (Nat.le_of_ble_eq_true rfl) (Nat.le_of_ble_eq_true rfl) dX0_force_77 ?_
      exact ret_roi hx hb hr hlk (by first | (simp [frc, Int32.not_le, Int32.not_lt, c1, k4]; done) | (clear hx hb hr hlk hnm hml hown hts hC hl; simp_all [frc, Int32.not_le, Int32.not_lt])) dX0_force_80
    by_cases k5 : k = 4
    · skip
      refine lv_tableIn (x := k) (tgt := 81) hx hb dX0_force_30 (by rw [k5]; decide) (by rw [k5]; decide) (by rw [k5]; rfl) (by decide) ?_
      refine lv_iload hx hb dX0_force_81 (lv_at hl 2 rfl) ?_
      refine lv_iconst (v := 1) hx hb dX0_force_83 rfl ?_
      refine lv_iadd hx hb dX0_force_84 ?_
      refine lv_iconst (v := 2) hx hb dX0_force_85 rfl ?_
      refine lv_idiv hx hb dX0_force_86 (by decide) ?_
      exact ret_roi hx hb hr hlk (by first | (simp [frc, Int32.not_le, Int32.not_lt, c1, k5]; done) | (clear hx hb hr hlk hnm hml hown hts hC hl; simp_all [frc, Int32.not_le, Int32.not_lt])) dX0_force_87
    by_cases k6 : k = 5
    · skip
      refine lv_tableIn (x := k) (tgt := 88) hx hb dX0_force_30 (by rw [k6]; decide) (by rw [k6]; decide) (by rw [k6]; rfl) (by decide) ?_
      refine lv_iload_n hx hb dX0_force_88 rfl (lv_at hl 6 rfl) ?_
      refine lv_bipush (v := 7) hx hb dX0_force_89 rfl ?_
      refine lv_irem hx hb dX0_force_91 (by decide) ?_
      refine lv_if_ne (tgt := 102) hx hb dX0_force_92 (by decide) (fun c7 => ?_) (fun c7 => ?_)
      · skip
        refine lv_iload hx hb dX0_force_102 (lv_at hl 0 rfl) ?_
        exact ret_roi hx hb hr hlk (by first | (simp [frc, Int32.not_le, Int32.not_lt, c1, k6, c7]; done) | (clear hx hb hr hlk hnm hml hown hts hC hl; simp_all [frc, Int32.not_le, Int32.not_lt])) dX0_force_104
      · skip
        refine lv_iconst (v := 2) hx hb dX0_force_95 rfl ?_
        refine lv_iload hx hb dX0_force_96 (lv_at hl 0 rfl) ?_
        refine lv_imul hx hb dX0_force_98 ?_
        refine lv_goto (tgt := 104) hx hb dX0_force_99 (by decide) ?_
        exact ret_roi hx hb hr hlk (by first | (simp [frc, Int32.not_le, Int32.not_lt, c1, k6, c7]; done) | (clear hx hb hr hlk hnm hml hown hts hC hl; simp_all [frc, Int32.not_le, Int32.not_lt])) dX0_force_104
    refine lv_tableOut (tgt := 105) hx hb dX0_force_30 (sw_out1_5 k2 k3 k4 k5 k6) (by decide) ?_
    refine lv_iload hx hb dX0_force_105 (lv_at hl 2 rfl) ?_
    exact ret_roi hx hb hr hlk (by first | (simp [frc, Int32.not_le, Int32.not_lt, c1, k2, k3, k4, k5, k6]; done) | (clear hx hb hr hlk hnm hml hown hts hC hl; simp_all [frc, Int32.not_le, Int32.not_lt])) dX0_force_107
  · skip
    refine lv_iload hx hb dX0_force_18 (lv_at hl 1 rfl) ?_
    refine lv_iconst (v := 4) hx hb dX0_force_20 rfl ?_
    refine lv_iadd hx hb dX0_force_21 ?_
    refine lv_goto (tgt := 27) hx hb dX0_force_22 (by decide) ?_
    refine lv_istore (lv' := [(6, .int ((a + w) + 4)), (5, .int ((a + w) + 3)), (4, .int (a + w)), (0, .int (k)), (1, .int (a)), (2, .int (w)), (3, .int (t))]) hx hb dX0_force_27 hl (by decide) rfl (fun ls hl => ?_)
    refine lv_iload_n hx hb dX0_force_29 rfl (lv_at hl 3 rfl) ?_
    by_cases k8 : k = 1
    · skip
      refine lv_tableIn (x := k) (tgt := 64) hx hb dX0_force_30 (by rw [k8]; decide) (by rw [k8]; decide) (by rw [k8]; rfl) (by decide) ?_
      refine lv_iload hx hb dX0_force_64 (lv_at hl 1 rfl) ?_
      exact ret_roi hx hb hr hlk (by first | (simp [frc, Int32.not_le, Int32.not_lt, c1, k8]; done) | (clear hx hb hr hlk hnm hml hown hts hC hl; simp_all [frc, Int32.not_le, Int32.not_lt])) dX0_force_66
    by_cases k9 : k = 2
    · skip
      refine lv_tableIn (x := k) (tgt := 67) hx hb dX0_force_30 (by rw [k9]; decide) (by rw [k9]; decide) (by rw [k9]; rfl) (by decide) ?_
      refine lv_iload hx hb dX0_force_67 (lv_at hl 0 rfl) ?_
      exact ret_roi hx hb hr hlk (by first | (simp [frc, Int32.not_le, Int32.not_lt, c1, k9]; done) | (clear hx hb hr hlk hnm hml hown hts hC hl; simp_all [frc, Int32.not_le, Int32.not_lt])) dX0_force_69
    by_cases k10 : k = 3
    · skip
      refine lv_tableIn (x := k) (tgt := 70) hx hb dX0_force_30 (by rw [k10]; decide) (by rw [k10]; decide) (by rw [k10]; rfl) (by decide) ?_
      refine lv_iconst (v := 1) hx hb dX0_force_70 rfl ?_
      refine lv_iload hx hb dX0_force_71 (lv_at hl 1 rfl) ?_
      refine lv_iload_n hx hb dX0_force_73 rfl (lv_at hl 6 rfl) ?_
      refine lv_iconst (v := 5) hx hb dX0_force_74 rfl ?_
      refine lv_idiv hx hb dX0_force_75 (by decide) ?_
      refine lv_isub hx hb dX0_force_76 ?_
      refine va_mmax hx hb (hml.trans hl.1.symm) hown (hts _ (gw_in m_527 rfl)) (hts _ (gw_in m_528 rfl)) (hts _ (gw_in m_67 rfl)) (hts _ (gw_in m_529 rfl)) (Nat.le_of_ble_eq_true rfl) (Nat.le_of_ble_eq_true rfl) (Nat.le_of_ble_eq_true rfl) (Nat.le_of_ble_eq_true rfl) dX0_force_77 ?_
      exact ret_roi hx hb hr hlk (by first | (simp [frc, Int32.not_le, Int32.not_lt, c1, k10]; done) | (clear hx hb hr hlk hnm hml hown hts hC hl; simp_all [frc, Int32.not_le, Int32.not_lt])) dX0_force_80
    by_cases k11 : k = 4
    · skip
      refine lv_tableIn (x := k) (tgt := 81) hx hb dX0_force_30 (by rw [k11]; decide) (by rw [k11]; decide) (by rw [k11]; rfl) (by decide) ?_
      refine lv_iload hx hb dX0_force_81 (lv_at hl 2 rfl) ?_
      refine lv_iconst (v := 1) hx hb dX0_force_83 rfl ?_
      refine lv_iadd hx hb dX0_force_84 ?_
      refine lv_iconst (v := 2) hx hb dX0_force_85 rfl ?_
      refine lv_idiv hx hb dX0_force_86 (by decide) ?_
      exact ret_roi hx hb hr hlk (by first | (simp [frc, Int32.not_le, Int32.not_lt, c1, k11]; done) | (clear hx hb hr hlk hnm hml hown hts hC hl; simp_all [frc, Int32.not_le, Int32.not_lt])) dX0_force_87
    by_cases k12 : k = 5
    · skip
      refine lv_tableIn (x := k) (tgt := 88) hx hb dX0_force_30 (by rw [k12]; decide) (by rw [k12]; decide) (by rw [k12]; rfl) (by decide) ?_
      refine lv_iload_n hx hb dX0_force_88 rfl (lv_at hl 6 rfl) ?_
      refine lv_bipush (v := 7) hx hb dX0_force_89 rfl ?_
      refine lv_irem hx hb dX0_force_91 (by decide) ?_
      refine lv_if_ne (tgt := 102) hx hb dX0_force_92 (by decide) (fun c13 => ?_) (fun c13 => ?_)
      · skip
        refine lv_iload hx hb dX0_force_102 (lv_at hl 0 rfl) ?_
        exact ret_roi hx hb hr hlk (by first | (simp [frc, Int32.not_le, Int32.not_lt, c1, k12, c13]; done) | (clear hx hb hr hlk hnm hml hown hts hC hl; simp_all [frc, Int32.not_le, Int32.not_lt])) dX0_force_104
      · skip
        refine lv_iconst (v := 2) hx hb dX0_force_95 rfl ?_
        refine lv_iload hx hb dX0_force_96 (lv_at hl 0 rfl) ?_
        refine lv_imul hx hb dX0_force_98 ?_
        refine lv_goto (tgt := 104) hx hb dX0_force_99 (by decide) ?_
        exact ret_roi hx hb hr hlk (by first | (simp [frc, Int32.not_le, Int32.not_lt, c1, k12, c13]; done) | (clear hx hb hr hlk hnm hml hown hts hC hl; simp_all [frc, Int32.not_le, Int32.not_lt])) dX0_force_104
    refine lv_tableOut (tgt := 105) hx hb dX0_force_30 (sw_out1_5 k8 k9 k10 k11 k12) (by decide) ?_
    refine lv_iload hx hb dX0_force_105 (lv_at hl 2 rfl) ?_
    exact ret_roi hx hb hr hlk (by first | (simp [frc, Int32.not_le, Int32.not_lt, c1, k8, k9, k10, k11, k12]; done) | (clear hx hb hr hlk hnm hml hown hts hC hl; simp_all [frc, Int32.not_le, Int32.not_lt])) dX0_force_107
set_option maxHeartbeats 4000000 in
set_option maxRecDepth 100000 in
theorem kX9_forceBy (l : Launch) (k a w t : Int32) : Met l yX9_forceBy (.code yX9_forceBy cX9_forceBy 6 (some .int) :: gw) (rmN 0) (va_Pc [.int (k), .int (a), .int (w), .int (t)] (fun _ => True)) (vp_Si (fun v => v = (frc k a w t))) 0 0 (fun _ => False) := by
  refine met_start (by decide) (Nat.le_of_ble_eq_true rfl) ?_
  intro pp ee ss mm bl mt cd hC hpre ls hl
  obtain ⟨⟨hx, hb, hml, hown, hts⟩, hr, hlk, hnm⟩ := id hC
  have hl : lv_has ls 6 [(0, .int (k)), (1, .int (a)), (2, .int (w)), (3, .int (t))] := hl
  refine lv_iload_n hx hb dX9_forceBy_0 rfl (lv_at hl 1 rfl) ?_
  refine lv_iload_n hx hb dX9_forceBy_1 rfl (lv_at hl 2 rfl) ?_
  refine lv_iadd hx hb dX9_forceBy_2 ?_
  refine lv_istore (lv' := [(4, .int (a + w)), (0, .int (k)), (1, .int (a)), (2, .int (w)), (3, .int (t))]) hx hb dX9_forceBy_3 hl (by decide) rfl (fun ls hl => ?_)
  refine lv_iload_n hx hb dX9_forceBy_5 rfl (lv_at hl 4 rfl) ?_
  refine lv_iconst (v := 3) hx hb dX9_forceBy_6 rfl ?_
  refine lv_irem hx hb dX9_forceBy_7 (by decide) ?_
  refine lv_iconst (v := 2) hx hb dX9_forceBy_8 rfl ?_
  refine lv_icmp_ne (tgt := 19) hx hb dX9_forceBy_9 (by decide) (fun c1 => ?_) (fun c1 => ?_)
  · skip
    refine lv_iload hx hb dX9_forceBy_19 (lv_at hl 0 rfl) ?_
    refine lv_istore (lv' := [(5, .int (a + w)), (4, .int (a + w)), (0, .int (k)), (1, .int (a)), (2, .int (w)), (3, .int (t))]) hx hb dX9_forceBy_21 hl (by decide) rfl (fun ls hl => ?_)
    refine lv_iload_n hx hb dX9_forceBy_23 rfl (lv_at hl 2 rfl) ?_
    by_cases k2 : k = 1
    · skip
      refine lv_tableIn (x := k) (tgt := 60) hx hb dX9_forceBy_24 (by rw [k2]; decide) (by rw [k2]; decide) (by rw [k2]; rfl) (by decide) ?_
      refine lv_iload hx hb dX9_forceBy_60 (lv_at hl 1 rfl) ?_
      refine lv_iconst (v := 3) hx hb dX9_forceBy_62 rfl ?_
      refine lv_iadd hx hb dX9_forceBy_63 ?_
      exact ret_roi hx hb hr hlk (by first | (simp [frc, Int32.not_le, Int32.not_lt, c1, k2]; done) | (clear hx hb hr hlk hnm hml hown hts hC hl; simp_all [frc, Int32.not_le, Int32.not_lt])) dX9_forceBy_64
    by_cases k3 : k = 2
    · skip
      refine lv_tableIn (x := k) (tgt := 65) hx hb dX9_forceBy_24 (by rw [k3]; decide) (by rw [k3]; decide) (by rw [k3]; rfl) (by decide) ?_
      refine lv_iload hx hb dX9_forceBy_65 (lv_at hl 0 rfl) ?_
      exact ret_roi hx hb hr hlk (by first | (simp [frc, Int32.not_le, Int32.not_lt, c1, k3]; done) | (clear hx hb hr hlk hnm hml hown hts hC hl; simp_all [frc, Int32.not_le, Int32.not_lt])) dX9_forceBy_67
    by_cases k4 : k = 3
    · skip
      refine lv_tableIn (x := k) (tgt := 68) hx hb dX9_forceBy_24 (by rw [k4]; decide) (by rw [k4]; decide) (by rw [k4]; rfl) (by decide) ?_
      refine lv_iload hx hb dX9_forceBy_68 (lv_at hl 1 rfl) ?_
      refine lv_iconst (v := 3) hx hb dX9_forceBy_70 rfl ?_
      refine lv_iadd hx hb dX9_forceBy_71 ?_
      refine lv_iload_n hx hb dX9_forceBy_72 rfl (lv_at hl 5 rfl) ?_
      refine lv_iconst (v := 5) hx hb dX9_forceBy_73 rfl ?_
      refine lv_idiv hx hb dX9_forceBy_74 (by decide) ?_
      refine lv_isub hx hb dX9_forceBy_75 ?_
      refine lv_iconst (v := 1) hx hb dX9_forceBy_76 rfl ?_
      refine lv_icmp_le (tgt := 91) hx hb dX9_forceBy_77 (by decide) (fun c5 => ?_) (fun c5 => ?_)
      · skip
        have c5' := Int32.not_lt.mpr c5
        refine lv_iconst (v := 1) hx hb dX9_forceBy_91 rfl ?_
        exact ret_roi hx hb hr hlk (by first | (simp [frc, Int32.not_le, Int32.not_lt, c1, k4, c5, c5']; done) | (clear hx hb hr hlk hnm hml hown hts hC hl; simp_all [frc, Int32.not_le, Int32.not_lt])) dX9_forceBy_92
      · skip
        have c5' := Int32.not_le.mp c5
        refine lv_iload hx hb dX9_forceBy_80 (lv_at hl 1 rfl) ?_
        refine lv_iconst (v := 3) hx hb dX9_forceBy_82 rfl ?_
        refine lv_iadd hx hb dX9_forceBy_83 ?_
        refine lv_iload_n hx hb dX9_forceBy_84 rfl (lv_at hl 5 rfl) ?_
        refine lv_iconst (v := 5) hx hb dX9_forceBy_85 rfl ?_
        refine lv_idiv hx hb dX9_forceBy_86 (by decide) ?_
        refine lv_isub hx hb dX9_forceBy_87 ?_
        refine lv_goto (tgt := 92) hx hb dX9_forceBy_88 (by decide) ?_
        exact ret_roi hx hb hr hlk (by first | (simp [frc, Int32.not_le, Int32.not_lt, c1, k4, c5, c5']; done) | (clear hx hb hr hlk hnm hml hown hts hC hl; simp_all [frc, Int32.not_le, Int32.not_lt])) dX9_forceBy_92
    by_cases k6 : k = 4
    · skip
      refine lv_tableIn (x := k) (tgt := 93) hx hb dX9_forceBy_24 (by rw [k6]; decide) (by rw [k6]; decide) (by rw [k6]; rfl) (by decide) ?_
      refine lv_iload hx hb dX9_forceBy_93 (lv_at hl 1 rfl) ?_
      refine lv_iconst (v := 1) hx hb dX9_forceBy_95 rfl ?_
      refine lv_iadd hx hb dX9_forceBy_96 ?_
      refine lv_iconst (v := 2) hx hb dX9_forceBy_97 rfl ?_
      refine lv_idiv hx hb dX9_forceBy_98 (by decide) ?_
      exact ret_roi hx hb hr hlk (by first | (simp [frc, Int32.not_le, Int32.not_lt, c1, k6]; done) | (clear hx hb hr hlk hnm hml hown hts hC hl; simp_all [frc, Int32.not_le, Int32.not_lt])) dX9_forceBy_99
    by_cases k7 : k = 5
    · skip
      refine lv_tableIn (x := k) (tgt := 100) hx hb dX9_forceBy_24 (by rw [k7]; decide) (by rw [k7]; decide) (by rw [k7]; rfl) (by decide) ?_
      refine lv_iload_n hx hb dX9_forceBy_100 rfl (lv_at hl 5 rfl) ?_
      refine lv_bipush (v := 7) hx hb dX9_forceBy_101 rfl ?_
      refine lv_irem hx hb dX9_forceBy_103 (by decide) ?_
      refine lv_if_ne (tgt := 114) hx hb dX9_forceBy_104 (by decide) (fun c8 => ?_) (fun c8 => ?_)
      · skip
        refine lv_iload hx hb dX9_forceBy_114 (lv_at hl 0 rfl) ?_
        exact ret_roi hx hb hr hlk (by first | (simp [frc, Int32.not_le, Int32.not_lt, c1, k7, c8]; done) | (clear hx hb hr hlk hnm hml hown hts hC hl; simp_all [frc, Int32.not_le, Int32.not_lt])) dX9_forceBy_116
      · skip
        refine lv_iconst (v := 2) hx hb dX9_forceBy_107 rfl ?_
        refine lv_iload hx hb dX9_forceBy_108 (lv_at hl 0 rfl) ?_
        refine lv_imul hx hb dX9_forceBy_110 ?_
        refine lv_goto (tgt := 116) hx hb dX9_forceBy_111 (by decide) ?_
        exact ret_roi hx hb hr hlk (by first | (simp [frc, Int32.not_le, Int32.not_lt, c1, k7, c8]; done) | (clear hx hb hr hlk hnm hml hown hts hC hl; simp_all [frc, Int32.not_le, Int32.not_lt])) dX9_forceBy_116
    refine lv_tableOut (tgt := 117) hx hb dX9_forceBy_24 (sw_out1_5 k2 k3 k4 k6 k7) (by decide) ?_
    refine lv_iload hx hb dX9_forceBy_117 (lv_at hl 1 rfl) ?_
    exact ret_roi hx hb hr hlk (by first | (simp [frc, Int32.not_le, Int32.not_lt, c1, k2, k3, k4, k6, k7]; done) | (clear hx hb hr hlk hnm hml hown hts hC hl; simp_all [frc, Int32.not_le, Int32.not_lt])) dX9_forceBy_119
  · skip
    refine lv_iload hx hb dX9_forceBy_12 (lv_at hl 0 rfl) ?_
    refine lv_iconst (v := 4) hx hb dX9_forceBy_14 rfl ?_
    refine lv_iadd hx hb dX9_forceBy_15 ?_
    refine lv_goto (tgt := 21) hx hb dX9_forceBy_16 (by decide) ?_
    refine lv_istore (lv' := [(5, .int ((a + w) + 4)), (4, .int (a + w)), (0, .int (k)), (1, .int (a)), (2, .int (w)), (3, .int (t))]) hx hb dX9_forceBy_21 hl (by decide) rfl (fun ls hl => ?_)
    refine lv_iload_n hx hb dX9_forceBy_23 rfl (lv_at hl 2 rfl) ?_
    by_cases k9 : k = 1
    · skip
      refine lv_tableIn (x := k) (tgt := 60) hx hb dX9_forceBy_24 (by rw [k9]; decide) (by rw [k9]; decide) (by rw [k9]; rfl) (by decide) ?_
      refine lv_iload hx hb dX9_forceBy_60 (lv_at hl 1 rfl) ?_
      refine lv_iconst (v := 3) hx hb dX9_forceBy_62 rfl ?_
      refine lv_iadd hx hb dX9_forceBy_63 ?_
      exact ret_roi hx hb hr hlk (by first | (simp [frc, Int32.not_le, Int32.not_lt, c1, k9]; done) | (clear hx hb hr hlk hnm hml hown hts hC hl; simp_all [frc, Int32.not_le, Int32.not_lt])) dX9_forceBy_64
    by_cases k10 : k = 2
    · skip
      refine lv_tableIn (x := k) (tgt := 65) hx hb dX9_forceBy_24 (by rw [k10]; decide) (by rw [k10]; decide) (by rw [k10]; rfl) (by decide) ?_
      refine lv_iload hx hb dX9_forceBy_65 (lv_at hl 0 rfl) ?_
      exact ret_roi hx hb hr hlk (by first | (simp [frc, Int32.not_le, Int32.not_lt, c1, k10]; done) | (clear hx hb hr hlk hnm hml hown hts hC hl; simp_all [frc, Int32.not_le, Int32.not_lt])) dX9_forceBy_67
    by_cases k11 : k = 3
    · skip
      refine lv_tableIn (x := k) (tgt := 68) hx hb dX9_forceBy_24 (by rw [k11]; decide) (by rw [k11]; decide) (by rw [k11]; rfl) (by decide) ?_
      refine lv_iload hx hb dX9_forceBy_68 (lv_at hl 1 rfl) ?_
      refine lv_iconst (v := 3) hx hb dX9_forceBy_70 rfl ?_
      refine lv_iadd hx hb dX9_forceBy_71 ?_
      refine lv_iload_n hx hb dX9_forceBy_72 rfl (lv_at hl 5 rfl) ?_
      refine lv_iconst (v := 5) hx hb dX9_forceBy_73 rfl ?_
      refine lv_idiv hx hb dX9_forceBy_74 (by decide) ?_
      refine lv_isub hx hb dX9_forceBy_75 ?_
      refine lv_iconst (v := 1) hx hb dX9_forceBy_76 rfl ?_
      refine lv_icmp_le (tgt := 91) hx hb dX9_forceBy_77 (by decide) (fun c12 => ?_) (fun c12 => ?_)
      · skip
        have c12' := Int32.not_lt.mpr c12
        refine lv_iconst (v := 1) hx hb dX9_forceBy_91 rfl ?_
        exact ret_roi hx hb hr hlk (by first | (simp [frc, Int32.not_le, Int32.not_lt, c1, k11, c12, c12']; done) | (clear hx hb hr hlk hnm hml hown hts hC hl; simp_all [frc, Int32.not_le, Int32.not_lt])) dX9_forceBy_92
      · skip
        have c12' := Int32.not_le.mp c12
        refine lv_iload hx hb dX9_forceBy_80 (lv_at hl 1 rfl) ?_
        refine lv_iconst (v := 3) hx hb dX9_forceBy_82 rfl ?_
        refine lv_iadd hx hb dX9_forceBy_83 ?_
        refine lv_iload_n hx hb dX9_forceBy_84 rfl (lv_at hl 5 rfl) ?_
        refine lv_iconst (v := 5) hx hb dX9_forceBy_85 rfl ?_
        refine lv_idiv hx hb dX9_forceBy_86 (by decide) ?_
        refine lv_isub hx hb dX9_forceBy_87 ?_
        refine lv_goto (tgt := 92) hx hb dX9_forceBy_88 (by decide) ?_
        exact ret_roi hx hb hr hlk (by first | (simp [frc, Int32.not_le, Int32.not_lt, c1, k11, c12, c12']; done) | (clear hx hb hr hlk hnm hml hown hts hC hl; simp_all [frc, Int32.not_le, Int32.not_lt])) dX9_forceBy_92
    by_cases k13 : k = 4
    · skip
      refine lv_tableIn (x := k) (tgt := 93) hx hb dX9_forceBy_24 (by rw [k13]; decide) (by rw [k13]; decide) (by rw [k13]; rfl) (by decide) ?_
      refine lv_iload hx hb dX9_forceBy_93 (lv_at hl 1 rfl) ?_
      refine lv_iconst (v := 1) hx hb dX9_forceBy_95 rfl ?_
      refine lv_iadd hx hb dX9_forceBy_96 ?_
      refine lv_iconst (v := 2) hx hb dX9_forceBy_97 rfl ?_
      refine lv_idiv hx hb dX9_forceBy_98 (by decide) ?_
      exact ret_roi hx hb hr hlk (by first | (simp [frc, Int32.not_le, Int32.not_lt, c1, k13]; done) | (clear hx hb hr hlk hnm hml hown hts hC hl; simp_all [frc, Int32.not_le, Int32.not_lt])) dX9_forceBy_99
    by_cases k14 : k = 5
    · skip
      refine lv_tableIn (x := k) (tgt := 100) hx hb dX9_forceBy_24 (by rw [k14]; decide) (by rw [k14]; decide) (by rw [k14]; rfl) (by decide) ?_
      refine lv_iload_n hx hb dX9_forceBy_100 rfl (lv_at hl 5 rfl) ?_
      refine lv_bipush (v := 7) hx hb dX9_forceBy_101 rfl ?_
      refine lv_irem hx hb dX9_forceBy_103 (by decide) ?_
      refine lv_if_ne (tgt := 114) hx hb dX9_forceBy_104 (by decide) (fun c15 => ?_) (fun c15 => ?_)
      · skip
        refine lv_iload hx hb dX9_forceBy_114 (lv_at hl 0 rfl) ?_
        exact ret_roi hx hb hr hlk (by first | (simp [frc, Int32.not_le, Int32.not_lt, c1, k14, c15]; done) | (clear hx hb hr hlk hnm hml hown hts hC hl; simp_all [frc, Int32.not_le, Int32.not_lt])) dX9_forceBy_116
      · skip
        refine lv_iconst (v := 2) hx hb dX9_forceBy_107 rfl ?_
        refine lv_iload hx hb dX9_forceBy_108 (lv_at hl 0 rfl) ?_
        refine lv_imul hx hb dX9_forceBy_110 ?_
        refine lv_goto (tgt := 116) hx hb dX9_forceBy_111 (by decide) ?_
        exact ret_roi hx hb hr hlk (by first | (simp [frc, Int32.not_le, Int32.not_lt, c1, k14, c15]; done) | (clear hx hb hr hlk hnm hml hown hts hC hl; simp_all [frc, Int32.not_le, Int32.not_lt])) dX9_forceBy_116
    refine lv_tableOut (tgt := 117) hx hb dX9_forceBy_24 (sw_out1_5 k9 k10 k11 k13 k14) (by decide) ?_
    refine lv_iload hx hb dX9_forceBy_117 (lv_at hl 1 rfl) ?_
    exact ret_roi hx hb hr hlk (by first | (simp [frc, Int32.not_le, Int32.not_lt, c1, k9, k10, k11, k13, k14]; done) | (clear hx hb hr hlk hnm hml hown hts hC hl; simp_all [frc, Int32.not_le, Int32.not_lt])) dX9_forceBy_119
set_option maxHeartbeats 4000000 in
set_option maxRecDepth 100000 in
theorem kX9_cracksBy (l : Launch) (k h c f t : Int32) : Met l yX9_cracksBy (.code yX9_cracksBy cX9_cracksBy 7 (some .int) :: gw) (rmN 0) (va_Pc [.int (k), .int (h), .int (c), .int (f), .int (t)] (fun _ => True)) (vp_Si (fun v => v = (crk k h c f t))) 0 0 (fun _ => False) := by
  refine met_start (by decide) (Nat.le_of_ble_eq_true rfl) ?_
  intro pp ee ss mm bl mt cd hC hpre ls hl
  obtain ⟨⟨hx, hb, hml, hown, hts⟩, hr, hlk, hnm⟩ := id hC
  have hl : lv_has ls 7 [(0, .int (k)), (1, .int (h)), (2, .int (c)), (3, .int (f)), (4, .int (t))] := hl
  refine lv_iload_n hx hb dX9_cracksBy_0 rfl (lv_at hl 3 rfl) ?_
  refine lv_iload_n hx hb dX9_cracksBy_1 rfl (lv_at hl 1 rfl) ?_
  refine lv_icmp_le (tgt := 11) hx hb dX9_cracksBy_2 (by decide) (fun c1 => ?_) (fun c1 => ?_)
  · skip
    have c1' := Int32.not_lt.mpr c1
    refine lv_iconst (v := 0) hx hb dX9_cracksBy_11 rfl ?_
    refine lv_istore (lv' := [(5, .int (0)), (0, .int (k)), (1, .int (h)), (2, .int (c)), (3, .int (f)), (4, .int (t))]) hx hb dX9_cracksBy_12 hl (by decide) rfl (fun ls hl => ?_)
    refine lv_iload_n hx hb dX9_cracksBy_14 rfl (lv_at hl 4 rfl) ?_
    refine lv_iload_n hx hb dX9_cracksBy_15 rfl (lv_at hl 2 rfl) ?_
    refine lv_icmp_le (tgt := 26) hx hb dX9_cracksBy_16 (by decide) (fun c2 => ?_) (fun c2 => ?_)
    · skip
      have c2' := Int32.not_lt.mpr c2
      refine lv_iload hx hb dX9_cracksBy_26 (lv_at hl 0 rfl) ?_
      refine lv_istore (lv' := [(6, .int (0)), (5, .int (0)), (0, .int (k)), (1, .int (h)), (2, .int (c)), (3, .int (f)), (4, .int (t))]) hx hb dX9_cracksBy_28 hl (by decide) rfl (fun ls hl => ?_)
      refine lv_iload_n hx hb dX9_cracksBy_30 rfl (lv_at hl 2 rfl) ?_
      by_cases k3 : k = 1
      · skip
        refine lv_tableIn (x := k) (tgt := 64) hx hb dX9_cracksBy_31 (by rw [k3]; decide) (by rw [k3]; decide) (by rw [k3]; rfl) (by decide) ?_
        refine lv_iload hx hb dX9_cracksBy_64 (lv_at hl 1 rfl) ?_
        refine lv_iconst (v := 2) hx hb dX9_cracksBy_66 rfl ?_
        refine lv_idiv hx hb dX9_cracksBy_67 (by decide) ?_
        exact ret_roi hx hb hr hlk (by first | (simp [crk, plainF, bakedF, Int32.not_le, Int32.not_lt, c1, c1', c2, c2', k3]; done) | (clear hx hb hr hlk hnm hml hown hts hC hl; simp_all [crk, plainF, bakedF, Int32.not_le, Int32.not_lt])) dX9_cracksBy_68
      by_cases k4 : k = 2
      · skip
        refine lv_tableIn (x := k) (tgt := 69) hx hb dX9_cracksBy_31 (by rw [k4]; decide) (by rw [k4]; decide) (by rw [k4]; rfl) (by decide) ?_
        refine lv_iload hx hb dX9_cracksBy_69 (lv_at hl 0 rfl) ?_
        exact ret_roi hx hb hr hlk (by first | (simp [crk, plainF, bakedF, Int32.not_le, Int32.not_lt, c1, c1', c2, c2', k4]; done) | (clear hx hb hr hlk hnm hml hown hts hC hl; simp_all [crk, plainF, bakedF, Int32.not_le, Int32.not_lt])) dX9_cracksBy_71
      by_cases k5 : k = 3
      · skip
        refine lv_tableIn (x := k) (tgt := 72) hx hb dX9_cracksBy_31 (by rw [k5]; decide) (by rw [k5]; decide) (by rw [k5]; rfl) (by decide) ?_
        refine lv_iload hx hb dX9_cracksBy_72 (lv_at hl 1 rfl) ?_
        refine lv_iconst (v := 2) hx hb dX9_cracksBy_74 rfl ?_
        refine lv_idiv hx hb dX9_cracksBy_75 (by decide) ?_
        refine lv_iconst (v := 2) hx hb dX9_cracksBy_76 rfl ?_
        refine lv_icmp_le (tgt := 84) hx hb dX9_cracksBy_77 (by decide) (fun c6 => ?_) (fun c6 => ?_)
        · skip
          have c6' := Int32.not_lt.mpr c6
          refine lv_iload hx hb dX9_cracksBy_84 (lv_at hl 1 rfl) ?_
          refine lv_iconst (v := 2) hx hb dX9_cracksBy_86 rfl ?_
          refine lv_idiv hx hb dX9_cracksBy_87 (by decide) ?_
          exact ret_roi hx hb hr hlk (by first | (simp [crk, plainF, bakedF, Int32.not_le, Int32.not_lt, c1, c1', c2, c2', k5, c6, c6']; done) | (clear hx hb hr hlk hnm hml hown hts hC hl; simp_all [crk, plainF, bakedF, Int32.not_le, Int32.not_lt])) dX9_cracksBy_88
        · skip
          have c6' := Int32.not_le.mp c6
          refine lv_iconst (v := 2) hx hb dX9_cracksBy_80 rfl ?_
          refine lv_goto (tgt := 88) hx hb dX9_cracksBy_81 (by decide) ?_
          exact ret_roi hx hb hr hlk (by first | (simp [crk, plainF, bakedF, Int32.not_le, Int32.not_lt, c1, c1', c2, c2', k5, c6, c6']; done) | (clear hx hb hr hlk hnm hml hown hts hC hl; simp_all [crk, plainF, bakedF, Int32.not_le, Int32.not_lt])) dX9_cracksBy_88
      by_cases k7 : k = 4
      · skip
        refine lv_tableIn (x := k) (tgt := 89) hx hb dX9_cracksBy_31 (by rw [k7]; decide) (by rw [k7]; decide) (by rw [k7]; rfl) (by decide) ?_
        refine lv_iload hx hb dX9_cracksBy_89 (lv_at hl 0 rfl) ?_
        refine lv_if_ne (tgt := 98) hx hb dX9_cracksBy_91 (by decide) (fun c8 => ?_) (fun c8 => ?_)
        · skip
          exact absurd c8 (by decide)
        · skip
          refine lv_iconst (v := 0) hx hb dX9_cracksBy_94 rfl ?_
          refine lv_goto (tgt := 102) hx hb dX9_cracksBy_95 (by decide) ?_
          exact ret_roi hx hb hr hlk (by first | (simp [crk, plainF, bakedF, Int32.not_le, Int32.not_lt, c1, c1', c2, c2', k7]; done) | (clear hx hb hr hlk hnm hml hown hts hC hl; simp_all [crk, plainF, bakedF, Int32.not_le, Int32.not_lt])) dX9_cracksBy_102
      by_cases k9 : k = 5
      · skip
        refine lv_tableIn (x := k) (tgt := 103) hx hb dX9_cracksBy_31 (by rw [k9]; decide) (by rw [k9]; decide) (by rw [k9]; rfl) (by decide) ?_
        refine lv_iload hx hb dX9_cracksBy_103 (lv_at hl 6 rfl) ?_
        refine lv_iconst (v := 2) hx hb dX9_cracksBy_105 rfl ?_
        refine lv_irem hx hb dX9_cracksBy_106 (by decide) ?_
        refine lv_iconst (v := 1) hx hb dX9_cracksBy_107 rfl ?_
        refine lv_icmp_ne (tgt := 123) hx hb dX9_cracksBy_108 (by decide) (fun c10 => ?_) (fun c10 => ?_)
        · skip
          refine lv_iload hx hb dX9_cracksBy_123 (lv_at hl 1 rfl) ?_
          exact ret_roi hx hb hr hlk (by first | (simp [crk, plainF, bakedF, Int32.not_le, Int32.not_lt, c1, c1', c2, c2', k9, c10]; done) | (clear hx hb hr hlk hnm hml hown hts hC hl; simp_all [crk, plainF, bakedF, Int32.not_le, Int32.not_lt])) dX9_cracksBy_125
        · skip
          refine lv_iload hx hb dX9_cracksBy_111 (lv_at hl 1 rfl) ?_
          refine lv_if_le (tgt := 123) hx hb dX9_cracksBy_113 (by decide) (fun c11 => ?_) (fun c11 => ?_)
          · skip
            refine lv_iload hx hb dX9_cracksBy_123 (lv_at hl 1 rfl) ?_
            exact ret_roi hx hb hr hlk (by first | (simp [crk, plainF, bakedF, Int32.not_le, Int32.not_lt, c1, c1', c2, c2', k9, c10]; done) | (clear hx hb hr hlk hnm hml hown hts hC hl; simp_all [crk, plainF, bakedF, Int32.not_le, Int32.not_lt])) dX9_cracksBy_125
          · skip
            exact absurd c11 (by decide)
      refine lv_tableOut (tgt := 126) hx hb dX9_cracksBy_31 (sw_out1_5 k3 k4 k5 k7 k9) (by decide) ?_
      refine lv_iload hx hb dX9_cracksBy_126 (lv_at hl 1 rfl) ?_
      exact ret_roi hx hb hr hlk (by first | (simp [crk, plainF, bakedF, Int32.not_le, Int32.not_lt, c1, c1', c2, c2', k3, k4, k5, k7, k9]; done) | (clear hx hb hr hlk hnm hml hown hts hC hl; simp_all [crk, plainF, bakedF, Int32.not_le, Int32.not_lt])) dX9_cracksBy_128
    · skip
      have c2' := Int32.not_le.mp c2
      refine lv_iload hx hb dX9_cracksBy_19 (lv_at hl 0 rfl) ?_
      refine lv_iconst (v := 2) hx hb dX9_cracksBy_21 rfl ?_
      refine lv_iadd hx hb dX9_cracksBy_22 ?_
      refine top_i (x := 0 + 2) (y := 2) (by decide) ?_
      refine lv_goto (tgt := 28) hx hb dX9_cracksBy_23 (by decide) ?_
      refine lv_istore (lv' := [(6, .int (2)), (5, .int (0)), (0, .int (k)), (1, .int (h)), (2, .int (c)), (3, .int (f)), (4, .int (t))]) hx hb dX9_cracksBy_28 hl (by decide) rfl (fun ls hl => ?_)
      refine lv_iload_n hx hb dX9_cracksBy_30 rfl (lv_at hl 2 rfl) ?_
      by_cases k12 : k = 1
      · skip
        refine lv_tableIn (x := k) (tgt := 64) hx hb dX9_cracksBy_31 (by rw [k12]; decide) (by rw [k12]; decide) (by rw [k12]; rfl) (by decide) ?_
        refine lv_iload hx hb dX9_cracksBy_64 (lv_at hl 1 rfl) ?_
        refine lv_iconst (v := 2) hx hb dX9_cracksBy_66 rfl ?_
        refine lv_idiv hx hb dX9_cracksBy_67 (by decide) ?_
        exact ret_roi hx hb hr hlk (by first | (simp [crk, plainF, bakedF, Int32.not_le, Int32.not_lt, c1, c1', c2, c2', k12]; done) | (clear hx hb hr hlk hnm hml hown hts hC hl; simp_all [crk, plainF, bakedF, Int32.not_le, Int32.not_lt])) dX9_cracksBy_68
      by_cases k13 : k = 2
      · skip
        refine lv_tableIn (x := k) (tgt := 69) hx hb dX9_cracksBy_31 (by rw [k13]; decide) (by rw [k13]; decide) (by rw [k13]; rfl) (by decide) ?_
        refine lv_iload hx hb dX9_cracksBy_69 (lv_at hl 0 rfl) ?_
        exact ret_roi hx hb hr hlk (by first | (simp [crk, plainF, bakedF, Int32.not_le, Int32.not_lt, c1, c1', c2, c2', k13]; done) | (clear hx hb hr hlk hnm hml hown hts hC hl; simp_all [crk, plainF, bakedF, Int32.not_le, Int32.not_lt])) dX9_cracksBy_71
      by_cases k14 : k = 3
      · skip
        refine lv_tableIn (x := k) (tgt := 72) hx hb dX9_cracksBy_31 (by rw [k14]; decide) (by rw [k14]; decide) (by rw [k14]; rfl) (by decide) ?_
        refine lv_iload hx hb dX9_cracksBy_72 (lv_at hl 1 rfl) ?_
        refine lv_iconst (v := 2) hx hb dX9_cracksBy_74 rfl ?_
        refine lv_idiv hx hb dX9_cracksBy_75 (by decide) ?_
        refine lv_iconst (v := 2) hx hb dX9_cracksBy_76 rfl ?_
        refine lv_icmp_le (tgt := 84) hx hb dX9_cracksBy_77 (by decide) (fun c15 => ?_) (fun c15 => ?_)
        · skip
          have c15' := Int32.not_lt.mpr c15
          refine lv_iload hx hb dX9_cracksBy_84 (lv_at hl 1 rfl) ?_
          refine lv_iconst (v := 2) hx hb dX9_cracksBy_86 rfl ?_
          refine lv_idiv hx hb dX9_cracksBy_87 (by decide) ?_
          exact ret_roi hx hb hr hlk (by first | (simp [crk, plainF, bakedF, Int32.not_le, Int32.not_lt, c1, c1', c2, c2', k14, c15, c15']; done) | (clear hx hb hr hlk hnm hml hown hts hC hl; simp_all [crk, plainF, bakedF, Int32.not_le, Int32.not_lt])) dX9_cracksBy_88
        · skip
          have c15' := Int32.not_le.mp c15
          refine lv_iconst (v := 2) hx hb dX9_cracksBy_80 rfl ?_
          refine lv_goto (tgt := 88) hx hb dX9_cracksBy_81 (by decide) ?_
          exact ret_roi hx hb hr hlk (by first | (simp [crk, plainF, bakedF, Int32.not_le, Int32.not_lt, c1, c1', c2, c2', k14, c15, c15']; done) | (clear hx hb hr hlk hnm hml hown hts hC hl; simp_all [crk, plainF, bakedF, Int32.not_le, Int32.not_lt])) dX9_cracksBy_88
      by_cases k16 : k = 4
      · skip
        refine lv_tableIn (x := k) (tgt := 89) hx hb dX9_cracksBy_31 (by rw [k16]; decide) (by rw [k16]; decide) (by rw [k16]; rfl) (by decide) ?_
        refine lv_iload hx hb dX9_cracksBy_89 (lv_at hl 0 rfl) ?_
        refine lv_if_ne (tgt := 98) hx hb dX9_cracksBy_91 (by decide) (fun c17 => ?_) (fun c17 => ?_)
        · skip
          refine lv_iload hx hb dX9_cracksBy_98 (lv_at hl 0 rfl) ?_
          refine lv_iload_n hx hb dX9_cracksBy_100 rfl (lv_at hl 4 rfl) ?_
          refine lv_iadd hx hb dX9_cracksBy_101 ?_
          exact ret_roi hx hb hr hlk (by first | (simp [crk, plainF, bakedF, Int32.not_le, Int32.not_lt, c1, c1', c2, c2', k16]; done) | (clear hx hb hr hlk hnm hml hown hts hC hl; simp_all [crk, plainF, bakedF, Int32.not_le, Int32.not_lt])) dX9_cracksBy_102
        · skip
          exact absurd c17 (by decide)
      by_cases k18 : k = 5
      · skip
        refine lv_tableIn (x := k) (tgt := 103) hx hb dX9_cracksBy_31 (by rw [k18]; decide) (by rw [k18]; decide) (by rw [k18]; rfl) (by decide) ?_
        refine lv_iload hx hb dX9_cracksBy_103 (lv_at hl 6 rfl) ?_
        refine lv_iconst (v := 2) hx hb dX9_cracksBy_105 rfl ?_
        refine lv_irem hx hb dX9_cracksBy_106 (by decide) ?_
        refine lv_iconst (v := 1) hx hb dX9_cracksBy_107 rfl ?_
        refine lv_icmp_ne (tgt := 123) hx hb dX9_cracksBy_108 (by decide) (fun c19 => ?_) (fun c19 => ?_)
        · skip
          refine lv_iload hx hb dX9_cracksBy_123 (lv_at hl 1 rfl) ?_
          exact ret_roi hx hb hr hlk (by first | (simp [crk, plainF, bakedF, Int32.not_le, Int32.not_lt, c1, c1', c2, c2', k18, c19]; done) | (clear hx hb hr hlk hnm hml hown hts hC hl; simp_all [crk, plainF, bakedF, Int32.not_le, Int32.not_lt])) dX9_cracksBy_125
        · skip
          refine lv_iload hx hb dX9_cracksBy_111 (lv_at hl 1 rfl) ?_
          refine lv_if_le (tgt := 123) hx hb dX9_cracksBy_113 (by decide) (fun c20 => ?_) (fun c20 => ?_)
          · skip
            refine lv_iload hx hb dX9_cracksBy_123 (lv_at hl 1 rfl) ?_
            exact ret_roi hx hb hr hlk (by first | (simp [crk, plainF, bakedF, Int32.not_le, Int32.not_lt, c1, c1', c2, c2', k18, c19]; done) | (clear hx hb hr hlk hnm hml hown hts hC hl; simp_all [crk, plainF, bakedF, Int32.not_le, Int32.not_lt])) dX9_cracksBy_125
          · skip
            exact absurd c20 (by decide)
      refine lv_tableOut (tgt := 126) hx hb dX9_cracksBy_31 (sw_out1_5 k12 k13 k14 k16 k18) (by decide) ?_
      refine lv_iload hx hb dX9_cracksBy_126 (lv_at hl 1 rfl) ?_
      exact ret_roi hx hb hr hlk (by first | (simp [crk, plainF, bakedF, Int32.not_le, Int32.not_lt, c1, c1', c2, c2', k12, k13, k14, k16, k18]; done) | (clear hx hb hr hlk hnm hml hown hts hC hl; simp_all [crk, plainF, bakedF, Int32.not_le, Int32.not_lt])) dX9_cracksBy_128
  · skip
    have c1' := Int32.not_le.mp c1
    refine lv_iload_n hx hb dX9_cracksBy_5 rfl (lv_at hl 3 rfl) ?_
    refine lv_iload_n hx hb dX9_cracksBy_6 rfl (lv_at hl 1 rfl) ?_
    refine lv_isub hx hb dX9_cracksBy_7 ?_
    refine lv_goto (tgt := 12) hx hb dX9_cracksBy_8 (by decide) ?_
    refine lv_istore (lv' := [(5, .int (f - h)), (0, .int (k)), (1, .int (h)), (2, .int (c)), (3, .int (f)), (4, .int (t))]) hx hb dX9_cracksBy_12 hl (by decide) rfl (fun ls hl => ?_)
    refine lv_iload_n hx hb dX9_cracksBy_14 rfl (lv_at hl 4 rfl) ?_
    refine lv_iload_n hx hb dX9_cracksBy_15 rfl (lv_at hl 2 rfl) ?_
    refine lv_icmp_le (tgt := 26) hx hb dX9_cracksBy_16 (by decide) (fun c21 => ?_) (fun c21 => ?_)
    · skip
      have c21' := Int32.not_lt.mpr c21
      refine lv_iload hx hb dX9_cracksBy_26 (lv_at hl 0 rfl) ?_
      refine lv_istore (lv' := [(6, .int (f - h)), (5, .int (f - h)), (0, .int (k)), (1, .int (h)), (2, .int (c)), (3, .int (f)), (4, .int (t))]) hx hb dX9_cracksBy_28 hl (by decide) rfl (fun ls hl => ?_)
      refine lv_iload_n hx hb dX9_cracksBy_30 rfl (lv_at hl 2 rfl) ?_
      by_cases k22 : k = 1
      · skip
        refine lv_tableIn (x := k) (tgt := 64) hx hb dX9_cracksBy_31 (by rw [k22]; decide) (by rw [k22]; decide) (by rw [k22]; rfl) (by decide) ?_
        refine lv_iload hx hb dX9_cracksBy_64 (lv_at hl 1 rfl) ?_
        refine lv_iconst (v := 2) hx hb dX9_cracksBy_66 rfl ?_
        refine lv_idiv hx hb dX9_cracksBy_67 (by decide) ?_
        exact ret_roi hx hb hr hlk (by first | (simp [crk, plainF, bakedF, Int32.not_le, Int32.not_lt, c1, c1', c21, c21', k22]; done) | (clear hx hb hr hlk hnm hml hown hts hC hl; simp_all [crk, plainF, bakedF, Int32.not_le, Int32.not_lt])) dX9_cracksBy_68
      by_cases k23 : k = 2
      · skip
        refine lv_tableIn (x := k) (tgt := 69) hx hb dX9_cracksBy_31 (by rw [k23]; decide) (by rw [k23]; decide) (by rw [k23]; rfl) (by decide) ?_
        refine lv_iload hx hb dX9_cracksBy_69 (lv_at hl 0 rfl) ?_
        exact ret_roi hx hb hr hlk (by first | (simp [crk, plainF, bakedF, Int32.not_le, Int32.not_lt, c1, c1', c21, c21', k23]; done) | (clear hx hb hr hlk hnm hml hown hts hC hl; simp_all [crk, plainF, bakedF, Int32.not_le, Int32.not_lt])) dX9_cracksBy_71
      by_cases k24 : k = 3
      · skip
        refine lv_tableIn (x := k) (tgt := 72) hx hb dX9_cracksBy_31 (by rw [k24]; decide) (by rw [k24]; decide) (by rw [k24]; rfl) (by decide) ?_
        refine lv_iload hx hb dX9_cracksBy_72 (lv_at hl 1 rfl) ?_
        refine lv_iconst (v := 2) hx hb dX9_cracksBy_74 rfl ?_
        refine lv_idiv hx hb dX9_cracksBy_75 (by decide) ?_
        refine lv_iconst (v := 2) hx hb dX9_cracksBy_76 rfl ?_
        refine lv_icmp_le (tgt := 84) hx hb dX9_cracksBy_77 (by decide) (fun c25 => ?_) (fun c25 => ?_)
        · skip
          have c25' := Int32.not_lt.mpr c25
          refine lv_iload hx hb dX9_cracksBy_84 (lv_at hl 1 rfl) ?_
          refine lv_iconst (v := 2) hx hb dX9_cracksBy_86 rfl ?_
          refine lv_idiv hx hb dX9_cracksBy_87 (by decide) ?_
          exact ret_roi hx hb hr hlk (by first | (simp [crk, plainF, bakedF, Int32.not_le, Int32.not_lt, c1, c1', c21, c21', k24, c25, c25']; done) | (clear hx hb hr hlk hnm hml hown hts hC hl; simp_all [crk, plainF, bakedF, Int32.not_le, Int32.not_lt])) dX9_cracksBy_88
        · skip
          have c25' := Int32.not_le.mp c25
          refine lv_iconst (v := 2) hx hb dX9_cracksBy_80 rfl ?_
          refine lv_goto (tgt := 88) hx hb dX9_cracksBy_81 (by decide) ?_
          exact ret_roi hx hb hr hlk (by first | (simp [crk, plainF, bakedF, Int32.not_le, Int32.not_lt, c1, c1', c21, c21', k24, c25, c25']; done) | (clear hx hb hr hlk hnm hml hown hts hC hl; simp_all [crk, plainF, bakedF, Int32.not_le, Int32.not_lt])) dX9_cracksBy_88
      by_cases k26 : k = 4
      · skip
        refine lv_tableIn (x := k) (tgt := 89) hx hb dX9_cracksBy_31 (by rw [k26]; decide) (by rw [k26]; decide) (by rw [k26]; rfl) (by decide) ?_
        refine lv_iload hx hb dX9_cracksBy_89 (lv_at hl 0 rfl) ?_
        refine lv_if_ne (tgt := 98) hx hb dX9_cracksBy_91 (by decide) (fun c27 => ?_) (fun c27 => ?_)
        · skip
          refine lv_iload hx hb dX9_cracksBy_98 (lv_at hl 0 rfl) ?_
          refine lv_iload_n hx hb dX9_cracksBy_100 rfl (lv_at hl 4 rfl) ?_
          refine lv_iadd hx hb dX9_cracksBy_101 ?_
          exact ret_roi hx hb hr hlk (by first | (simp [crk, plainF, bakedF, Int32.not_le, Int32.not_lt, c1, c1', c21, c21', k26, c27]; done) | (clear hx hb hr hlk hnm hml hown hts hC hl; simp_all [crk, plainF, bakedF, Int32.not_le, Int32.not_lt])) dX9_cracksBy_102
        · skip
          refine lv_iconst (v := 0) hx hb dX9_cracksBy_94 rfl ?_
          refine lv_goto (tgt := 102) hx hb dX9_cracksBy_95 (by decide) ?_
          exact ret_roi hx hb hr hlk (by first | (simp [crk, plainF, bakedF, Int32.not_le, Int32.not_lt, c1, c1', c21, c21', k26, c27]; done) | (clear hx hb hr hlk hnm hml hown hts hC hl; simp_all [crk, plainF, bakedF, Int32.not_le, Int32.not_lt])) dX9_cracksBy_102
      by_cases k28 : k = 5
      · skip
        refine lv_tableIn (x := k) (tgt := 103) hx hb dX9_cracksBy_31 (by rw [k28]; decide) (by rw [k28]; decide) (by rw [k28]; rfl) (by decide) ?_
        refine lv_iload hx hb dX9_cracksBy_103 (lv_at hl 6 rfl) ?_
        refine lv_iconst (v := 2) hx hb dX9_cracksBy_105 rfl ?_
        refine lv_irem hx hb dX9_cracksBy_106 (by decide) ?_
        refine lv_iconst (v := 1) hx hb dX9_cracksBy_107 rfl ?_
        refine lv_icmp_ne (tgt := 123) hx hb dX9_cracksBy_108 (by decide) (fun c29 => ?_) (fun c29 => ?_)
        · skip
          refine lv_iload hx hb dX9_cracksBy_123 (lv_at hl 1 rfl) ?_
          exact ret_roi hx hb hr hlk (by first | (simp [crk, plainF, bakedF, Int32.not_le, Int32.not_lt, c1, c1', c21, c21', k28, c29]; done) | (clear hx hb hr hlk hnm hml hown hts hC hl; simp_all [crk, plainF, bakedF, Int32.not_le, Int32.not_lt])) dX9_cracksBy_125
        · skip
          refine lv_iload hx hb dX9_cracksBy_111 (lv_at hl 1 rfl) ?_
          refine lv_if_le (tgt := 123) hx hb dX9_cracksBy_113 (by decide) (fun c30 => ?_) (fun c30 => ?_)
          · skip
            have c30' := Int32.not_lt.mpr c30
            refine lv_iload hx hb dX9_cracksBy_123 (lv_at hl 1 rfl) ?_
            exact ret_roi hx hb hr hlk (by first | (simp [crk, plainF, bakedF, Int32.not_le, Int32.not_lt, c1, c1', c21, c21', k28, c29, c30, c30']; done) | (clear hx hb hr hlk hnm hml hown hts hC hl; simp_all [crk, plainF, bakedF, Int32.not_le, Int32.not_lt])) dX9_cracksBy_125
          · skip
            have c30' := Int32.not_le.mp c30
            refine lv_iload hx hb dX9_cracksBy_116 (lv_at hl 1 rfl) ?_
            refine lv_iconst (v := 1) hx hb dX9_cracksBy_118 rfl ?_
            refine lv_isub hx hb dX9_cracksBy_119 ?_
            refine lv_goto (tgt := 125) hx hb dX9_cracksBy_120 (by decide) ?_
            exact ret_roi hx hb hr hlk (by first | (simp [crk, plainF, bakedF, Int32.not_le, Int32.not_lt, c1, c1', c21, c21', k28, c29, c30, c30']; done) | (clear hx hb hr hlk hnm hml hown hts hC hl; simp_all [crk, plainF, bakedF, Int32.not_le, Int32.not_lt])) dX9_cracksBy_125
      refine lv_tableOut (tgt := 126) hx hb dX9_cracksBy_31 (sw_out1_5 k22 k23 k24 k26 k28) (by decide) ?_
      refine lv_iload hx hb dX9_cracksBy_126 (lv_at hl 1 rfl) ?_
      exact ret_roi hx hb hr hlk (by first | (simp [crk, plainF, bakedF, Int32.not_le, Int32.not_lt, c1, c1', c21, c21', k22, k23, k24, k26, k28]; done) | (clear hx hb hr hlk hnm hml hown hts hC hl; simp_all [crk, plainF, bakedF, Int32.not_le, Int32.not_lt])) dX9_cracksBy_128
    · skip
      have c21' := Int32.not_le.mp c21
      refine lv_iload hx hb dX9_cracksBy_19 (lv_at hl 0 rfl) ?_
      refine lv_iconst (v := 2) hx hb dX9_cracksBy_21 rfl ?_
      refine lv_iadd hx hb dX9_cracksBy_22 ?_
      refine lv_goto (tgt := 28) hx hb dX9_cracksBy_23 (by decide) ?_
      refine lv_istore (lv' := [(6, .int ((f - h) + 2)), (5, .int (f - h)), (0, .int (k)), (1, .int (h)), (2, .int (c)), (3, .int (f)), (4, .int (t))]) hx hb dX9_cracksBy_28 hl (by decide) rfl (fun ls hl => ?_)
      refine lv_iload_n hx hb dX9_cracksBy_30 rfl (lv_at hl 2 rfl) ?_
      by_cases k31 : k = 1
      · skip
        refine lv_tableIn (x := k) (tgt := 64) hx hb dX9_cracksBy_31 (by rw [k31]; decide) (by rw [k31]; decide) (by rw [k31]; rfl) (by decide) ?_
        refine lv_iload hx hb dX9_cracksBy_64 (lv_at hl 1 rfl) ?_
        refine lv_iconst (v := 2) hx hb dX9_cracksBy_66 rfl ?_
        refine lv_idiv hx hb dX9_cracksBy_67 (by decide) ?_
        exact ret_roi hx hb hr hlk (by first | (simp [crk, plainF, bakedF, Int32.not_le, Int32.not_lt, c1, c1', c21, c21', k31]; done) | (clear hx hb hr hlk hnm hml hown hts hC hl; simp_all [crk, plainF, bakedF, Int32.not_le, Int32.not_lt])) dX9_cracksBy_68
      by_cases k32 : k = 2
      · skip
        refine lv_tableIn (x := k) (tgt := 69) hx hb dX9_cracksBy_31 (by rw [k32]; decide) (by rw [k32]; decide) (by rw [k32]; rfl) (by decide) ?_
        refine lv_iload hx hb dX9_cracksBy_69 (lv_at hl 0 rfl) ?_
        exact ret_roi hx hb hr hlk (by first | (simp [crk, plainF, bakedF, Int32.not_le, Int32.not_lt, c1, c1', c21, c21', k32]; done) | (clear hx hb hr hlk hnm hml hown hts hC hl; simp_all [crk, plainF, bakedF, Int32.not_le, Int32.not_lt])) dX9_cracksBy_71
      by_cases k33 : k = 3
      · skip
        refine lv_tableIn (x := k) (tgt := 72) hx hb dX9_cracksBy_31 (by rw [k33]; decide) (by rw [k33]; decide) (by rw [k33]; rfl) (by decide) ?_
        refine lv_iload hx hb dX9_cracksBy_72 (lv_at hl 1 rfl) ?_
        refine lv_iconst (v := 2) hx hb dX9_cracksBy_74 rfl ?_
        refine lv_idiv hx hb dX9_cracksBy_75 (by decide) ?_
        refine lv_iconst (v := 2) hx hb dX9_cracksBy_76 rfl ?_
        refine lv_icmp_le (tgt := 84) hx hb dX9_cracksBy_77 (by decide) (fun c34 => ?_) (fun c34 => ?_)
        · skip
          have c34' := Int32.not_lt.mpr c34
          refine lv_iload hx hb dX9_cracksBy_84 (lv_at hl 1 rfl) ?_
          refine lv_iconst (v := 2) hx hb dX9_cracksBy_86 rfl ?_
          refine lv_idiv hx hb dX9_cracksBy_87 (by decide) ?_
          exact ret_roi hx hb hr hlk (by first | (simp [crk, plainF, bakedF, Int32.not_le, Int32.not_lt, c1, c1', c21, c21', k33, c34, c34']; done) | (clear hx hb hr hlk hnm hml hown hts hC hl; simp_all [crk, plainF, bakedF, Int32.not_le, Int32.not_lt])) dX9_cracksBy_88
        · skip
          have c34' := Int32.not_le.mp c34
          refine lv_iconst (v := 2) hx hb dX9_cracksBy_80 rfl ?_
          refine lv_goto (tgt := 88) hx hb dX9_cracksBy_81 (by decide) ?_
          exact ret_roi hx hb hr hlk (by first | (simp [crk, plainF, bakedF, Int32.not_le, Int32.not_lt, c1, c1', c21, c21', k33, c34, c34']; done) | (clear hx hb hr hlk hnm hml hown hts hC hl; simp_all [crk, plainF, bakedF, Int32.not_le, Int32.not_lt])) dX9_cracksBy_88
      by_cases k35 : k = 4
      · skip
        refine lv_tableIn (x := k) (tgt := 89) hx hb dX9_cracksBy_31 (by rw [k35]; decide) (by rw [k35]; decide) (by rw [k35]; rfl) (by decide) ?_
        refine lv_iload hx hb dX9_cracksBy_89 (lv_at hl 0 rfl) ?_
        refine lv_if_ne (tgt := 98) hx hb dX9_cracksBy_91 (by decide) (fun c36 => ?_) (fun c36 => ?_)
        · skip
          refine lv_iload hx hb dX9_cracksBy_98 (lv_at hl 0 rfl) ?_
          refine lv_iload_n hx hb dX9_cracksBy_100 rfl (lv_at hl 4 rfl) ?_
          refine lv_iadd hx hb dX9_cracksBy_101 ?_
          exact ret_roi hx hb hr hlk (by first | (simp [crk, plainF, bakedF, Int32.not_le, Int32.not_lt, c1, c1', c21, c21', k35, c36]; done) | (clear hx hb hr hlk hnm hml hown hts hC hl; simp_all [crk, plainF, bakedF, Int32.not_le, Int32.not_lt])) dX9_cracksBy_102
        · skip
          refine lv_iconst (v := 0) hx hb dX9_cracksBy_94 rfl ?_
          refine lv_goto (tgt := 102) hx hb dX9_cracksBy_95 (by decide) ?_
          exact ret_roi hx hb hr hlk (by first | (simp [crk, plainF, bakedF, Int32.not_le, Int32.not_lt, c1, c1', c21, c21', k35, c36]; done) | (clear hx hb hr hlk hnm hml hown hts hC hl; simp_all [crk, plainF, bakedF, Int32.not_le, Int32.not_lt])) dX9_cracksBy_102
      by_cases k37 : k = 5
      · skip
        refine lv_tableIn (x := k) (tgt := 103) hx hb dX9_cracksBy_31 (by rw [k37]; decide) (by rw [k37]; decide) (by rw [k37]; rfl) (by decide) ?_
        refine lv_iload hx hb dX9_cracksBy_103 (lv_at hl 6 rfl) ?_
        refine lv_iconst (v := 2) hx hb dX9_cracksBy_105 rfl ?_
        refine lv_irem hx hb dX9_cracksBy_106 (by decide) ?_
        refine lv_iconst (v := 1) hx hb dX9_cracksBy_107 rfl ?_
        refine lv_icmp_ne (tgt := 123) hx hb dX9_cracksBy_108 (by decide) (fun c38 => ?_) (fun c38 => ?_)
        · skip
          refine lv_iload hx hb dX9_cracksBy_123 (lv_at hl 1 rfl) ?_
          exact ret_roi hx hb hr hlk (by first | (simp [crk, plainF, bakedF, Int32.not_le, Int32.not_lt, c1, c1', c21, c21', k37, c38]; done) | (clear hx hb hr hlk hnm hml hown hts hC hl; simp_all [crk, plainF, bakedF, Int32.not_le, Int32.not_lt])) dX9_cracksBy_125
        · skip
          refine lv_iload hx hb dX9_cracksBy_111 (lv_at hl 1 rfl) ?_
          refine lv_if_le (tgt := 123) hx hb dX9_cracksBy_113 (by decide) (fun c39 => ?_) (fun c39 => ?_)
          · skip
            have c39' := Int32.not_lt.mpr c39
            refine lv_iload hx hb dX9_cracksBy_123 (lv_at hl 1 rfl) ?_
            exact ret_roi hx hb hr hlk (by first | (simp [crk, plainF, bakedF, Int32.not_le, Int32.not_lt, c1, c1', c21, c21', k37, c38, c39, c39']; done) | (clear hx hb hr hlk hnm hml hown hts hC hl; simp_all [crk, plainF, bakedF, Int32.not_le, Int32.not_lt])) dX9_cracksBy_125
          · skip
            have c39' := Int32.not_le.mp c39
            refine lv_iload hx hb dX9_cracksBy_116 (lv_at hl 1 rfl) ?_
            refine lv_iconst (v := 1) hx hb dX9_cracksBy_118 rfl ?_
            refine lv_isub hx hb dX9_cracksBy_119 ?_
            refine lv_goto (tgt := 125) hx hb dX9_cracksBy_120 (by decide) ?_
            exact ret_roi hx hb hr hlk (by first | (simp [crk, plainF, bakedF, Int32.not_le, Int32.not_lt, c1, c1', c21, c21', k37, c38, c39, c39']; done) | (clear hx hb hr hlk hnm hml hown hts hC hl; simp_all [crk, plainF, bakedF, Int32.not_le, Int32.not_lt])) dX9_cracksBy_125
      refine lv_tableOut (tgt := 126) hx hb dX9_cracksBy_31 (sw_out1_5 k31 k32 k33 k35 k37) (by decide) ?_
      refine lv_iload hx hb dX9_cracksBy_126 (lv_at hl 1 rfl) ?_
      exact ret_roi hx hb hr hlk (by first | (simp [crk, plainF, bakedF, Int32.not_le, Int32.not_lt, c1, c1', c21, c21', k31, k32, k33, k35, k37]; done) | (clear hx hb hr hlk hnm hml hown hts hC hl; simp_all [crk, plainF, bakedF, Int32.not_le, Int32.not_lt])) dX9_cracksBy_128
set_option maxHeartbeats 4000000 in
set_option maxRecDepth 100000 in
theorem kX7_isNut (l : Launch) (g : gG) (a : Nat → Nat) (r : Nat → Int32) (i : Int32) : Met l yX7_isNut (.code yX7_isNut cX7_isNut 2 (some .boolean) :: gw) (rmN 0) (va_Pc [.ref (a 0), .int (i)] (roPre g (yW g a r))) (vp_Si (fun v => v = (b2i (yNut r i)))) 0 0 (fun _ => False) := by
  refine met_start (by decide) (Nat.le_of_ble_eq_true rfl) ?_
  intro pp ee ss mm bl mt cd hC hpre ls hl
  obtain ⟨⟨hx, hb, hml, hown, hts⟩, hr, hlk, hnm⟩ := id hC
  have hl : lv_has ls 2 [(0, .ref (a 0)), (1, .int (i))] := hl
  obtain ⟨hP, hK⟩ := hpre
  refine lv_iconst (v := 0) hx hb dX7_isNut_0 rfl ?_
  refine lv_iload_n hx hb dX7_isNut_1 rfl (lv_at hl 1 rfl) ?_
  refine lv_icmp_gt (tgt := 17) hx hb dX7_isNut_2 (by decide) (fun c1 => ?_) (fun c1 => ?_)
  · skip
    have c1' := Int32.not_le.mpr c1
    refine lv_iconst (v := 0) hx hb dX7_isNut_17 rfl ?_
    exact ret_roz hx hb hr hlk rfl (by first | (simp [yNut, b2i, Int32.not_le, Int32.not_lt, c1, c1']; done) | (clear hx hb hr hlk hnm hml hown hts hC hl; simp_all [yNut, b2i, Int32.not_le, Int32.not_lt])) dX7_isNut_18
  · skip
    have c1' := Int32.not_lt.mp c1
    refine lv_iload_n hx hb dX7_isNut_5 rfl (lv_at hl 1 rfl) ?_
    refine lv_aload_n hx hb dX7_isNut_6 rfl (lv_at hl 0 rfl) ?_
    refine kget hC.1 hK hP 0 rfl rfl in_7 1 (by decide) (gw_in m_102 rfl) rfl dX7_isNut_7 ?_
    refine lv_icmp_ge (tgt := 17) hx hb dX7_isNut_10 (by decide) (fun c2 => ?_) (fun c2 => ?_)
    · skip
      have c2' := Int32.not_lt.mpr c2
      refine lv_iconst (v := 0) hx hb dX7_isNut_17 rfl ?_
      exact ret_roz hx hb hr hlk rfl (by first | (simp [yNut, b2i, Int32.not_le, Int32.not_lt, c1, c1', c2, c2']; done) | (clear hx hb hr hlk hnm hml hown hts hC hl; simp_all [yNut, b2i, Int32.not_le, Int32.not_lt])) dX7_isNut_18
    · skip
      have c2' := Int32.not_le.mp c2
      refine lv_iconst (v := 1) hx hb dX7_isNut_13 rfl ?_
      refine lv_goto (tgt := 18) hx hb dX7_isNut_14 (by decide) ?_
      exact ret_roz hx hb hr hlk rfl (by first | (simp [yNut, b2i, Int32.not_le, Int32.not_lt, c1, c1', c2, c2']; done) | (clear hx hb hr hlk hnm hml hown hts hC hl; simp_all [yNut, b2i, Int32.not_le, Int32.not_lt])) dX7_isNut_18
set_option maxHeartbeats 4000000 in
set_option maxRecDepth 100000 in
theorem kX7_isPlayer (l : Launch) (g : gG) (a : Nat → Nat) (r : Nat → Int32) (i : Int32) : Met l yX7_isPlayer (.code yX7_isPlayer cX7_isPlayer 2 (some .boolean) :: gw) (rmN 0) (va_Pc [.ref (a 0), .int (i)] (roPre g (yW g a r))) (vp_Si (fun v => v = (b2i (yPl r i)))) 0 0 (fun _ => False) := by
  refine met_start (by decide) (Nat.le_of_ble_eq_true rfl) ?_
  intro pp ee ss mm bl mt cd hC hpre ls hl
  obtain ⟨⟨hx, hb, hml, hown, hts⟩, hr, hlk, hnm⟩ := id hC
  have hl : lv_has ls 2 [(0, .ref (a 0)), (1, .int (i))] := hl
  obtain ⟨hP, hK⟩ := hpre
  refine lv_iconst (v := 0) hx hb dX7_isPlayer_0 rfl ?_
  refine lv_iload_n hx hb dX7_isPlayer_1 rfl (lv_at hl 1 rfl) ?_
  refine lv_icmp_gt (tgt := 17) hx hb dX7_isPlayer_2 (by decide) (fun c1 => ?_) (fun c1 => ?_)
  · skip
    have c1' := Int32.not_le.mpr c1
    refine lv_iconst (v := 0) hx hb dX7_isPlayer_17 rfl ?_
    exact ret_roz hx hb hr hlk rfl (by first | (simp [yPl, b2i, Int32.not_le, Int32.not_lt, c1, c1']; done) | (clear hx hb hr hlk hnm hml hown hts hC hl; simp_all [yPl, b2i, Int32.not_le, Int32.not_lt])) dX7_isPlayer_18
  · skip
    have c1' := Int32.not_lt.mp c1
    refine lv_iload_n hx hb dX7_isPlayer_5 rfl (lv_at hl 1 rfl) ?_
    refine lv_aload_n hx hb dX7_isPlayer_6 rfl (lv_at hl 0 rfl) ?_
    refine kget hC.1 hK hP 0 rfl rfl in_7 0 (by decide) (gw_in m_99 rfl) rfl dX7_isPlayer_7 ?_
    refine lv_icmp_ge (tgt := 17) hx hb dX7_isPlayer_10 (by decide) (fun c2 => ?_) (fun c2 => ?_)
    · skip
      have c2' := Int32.not_lt.mpr c2
      refine lv_iconst (v := 0) hx hb dX7_isPlayer_17 rfl ?_
      exact ret_roz hx hb hr hlk rfl (by first | (simp [yPl, b2i, Int32.not_le, Int32.not_lt, c1, c1', c2, c2']; done) | (clear hx hb hr hlk hnm hml hown hts hC hl; simp_all [yPl, b2i, Int32.not_le, Int32.not_lt])) dX7_isPlayer_18
    · skip
      have c2' := Int32.not_le.mp c2
      refine lv_iconst (v := 1) hx hb dX7_isPlayer_13 rfl ?_
      refine lv_goto (tgt := 18) hx hb dX7_isPlayer_14 (by decide) ?_
      exact ret_roz hx hb hr hlk rfl (by first | (simp [yPl, b2i, Int32.not_le, Int32.not_lt, c1, c1', c2, c2']; done) | (clear hx hb hr hlk hnm hml hown hts hC hl; simp_all [yPl, b2i, Int32.not_le, Int32.not_lt])) dX7_isPlayer_18
set_option maxHeartbeats 4000000 in
set_option maxRecDepth 100000 in
theorem kX7_isBroken (l : Launch) (g : gG) (a : Nat → Nat) (r : Nat → Int32) (i : Int32) (h2 : (r 2).toInt ≤ 6) : Met l yX7_isBroken (.code yX7_isBroken cX7_isBroken 2 (some .boolean) :: gw) (rmN 1) (va_Pc [.ref (a 0), .int (i)] (roPre g (yW g a r))) (vp_Si (fun v => v = (b2i (yBrk r i)))) 0 0 (fun _ => False) := by
  refine met_start (by decide) (Nat.le_of_ble_eq_true rfl) ?_
  intro pp ee ss mm bl mt cd hC hpre ls hl
  obtain ⟨⟨hx, hb, hml, hown, hts⟩, hr, hlk, hnm⟩ := id hC
  have hl : lv_has ls 2 [(0, .ref (a 0)), (1, .int (i))] := hl
  obtain ⟨hP, hK⟩ := hpre
  refine lv_aload_n hx hb dX7_isBroken_0 rfl (lv_at hl 0 rfl) ?_
  refine lv_iload_n hx hb dX7_isBroken_1 rfl (lv_at hl 1 rfl) ?_
  refine ro_i (run_V (As := [.int (i)]) (rest := []) hC.1 ckX7_isNut (kX7_isNut l g a r i) (gw_in m_502 rfl) (fb_ro _ _ _) (va_recv hK.1 hP (q0 := 0) rfl rfl) (fun U hU hW => ⟨by rw [hU]; exact hP, kK_warm hW hK⟩) ⟨rfl, rfl, Nat.le_of_ble_eq_true rfl, Nat.le_of_ble_eq_true rfl⟩ rfl hl.1 rfl (Nat.le_of_ble_eq_true rfl) dX7_isBroken_2 ⟨Nat.le_of_ble_eq_true rfl, Nat.le_of_ble_eq_true rfl⟩) ?_
  refine lv_if_eq (tgt := 23) hx hb dX7_isBroken_5 (by decide) (fun c1 => ?_) (fun c1 => ?_)
  · skip
    have c1 := b2i_0 c1
    refine lv_iconst (v := 0) hx hb dX7_isBroken_23 rfl ?_
    exact ret_roz hx hb hr hlk rfl (by first | (simp [yBrk, b2i, Int32.not_le, Int32.not_lt, c1]; done) | (clear hx hb hr hlk hnm hml hown hts hC hl; simp_all [yBrk, b2i, Int32.not_le, Int32.not_lt])) dX7_isBroken_24
  · skip
    have c1 := b2i_1 c1
    refine lv_aload_n hx hb dX7_isBroken_8 rfl (lv_at hl 0 rfl) ?_
    refine kget hC.1 hK hP 0 rfl rfl in_7 9 (by decide) (gw_in m_115 rfl) rfl dX7_isBroken_9 ?_
    refine lv_iload_n hx hb dX7_isBroken_12 rfl (lv_at hl 1 rfl) ?_
    refine kald (v := r (33 + cl i)) hC.1 hK hP 7 rfl (yNut_in c1 h2) rfl dX7_isBroken_13 ?_
    refine lv_bipush (v := 10) hx hb dX7_isBroken_14 rfl ?_
    refine lv_icmp_lt (tgt := 23) hx hb dX7_isBroken_16 (by decide) (fun c2 => ?_) (fun c2 => ?_)
    · skip
      have c2' := Int32.not_le.mpr c2
      refine lv_iconst (v := 0) hx hb dX7_isBroken_23 rfl ?_
      exact ret_roz hx hb hr hlk rfl (by first | (simp [yBrk, b2i, Int32.not_le, Int32.not_lt, c1, c2, c2']; done) | (clear hx hb hr hlk hnm hml hown hts hC hl; simp_all [yBrk, b2i, Int32.not_le, Int32.not_lt])) dX7_isBroken_24
    · skip
      have c2' := Int32.not_lt.mp c2
      refine lv_iconst (v := 1) hx hb dX7_isBroken_19 rfl ?_
      refine lv_goto (tgt := 24) hx hb dX7_isBroken_20 (by decide) ?_
      exact ret_roz hx hb hr hlk rfl (by first | (simp [yBrk, b2i, Int32.not_le, Int32.not_lt, c1, c2, c2']; done) | (clear hx hb hr hlk hnm hml hown hts hC hl; simp_all [yBrk, b2i, Int32.not_le, Int32.not_lt])) dX7_isBroken_24
