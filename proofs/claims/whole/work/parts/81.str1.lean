theorem ckJ0_coder_7d493 : ckV yJ0_coder_7d493 cJ0_coder_7d493 1 (some .byte) 0 := ⟨(gw_in m_427 rfl), (gw_in m_72 rfl), ⟨(gw_in m_425 rfl), (gw_in m_426 rfl)⟩, by decide +kernel, by decide +kernel, by decide +kernel⟩
theorem ckJ0_length_8abf5 : ckV yJ0_length_8abf5 cJ0_length_8abf5 1 (some .int) 0 := ⟨(gw_in m_423 rfl), (gw_in m_72 rfl), ⟨(gw_in m_421 rfl), (gw_in m_422 rfl)⟩, by decide +kernel, by decide +kernel, by decide +kernel⟩
theorem ckJ0_isLatin1_aae02 : ckV yJ0_isLatin1_aae02 cJ0_isLatin1_aae02 1 (some .boolean) 0 := ⟨(gw_in m_437 rfl), (gw_in m_72 rfl), ⟨(gw_in m_435 rfl), (gw_in m_436 rfl)⟩, by decide +kernel, by decide +kernel, by decide +kernel⟩
theorem ckJ3_checkIndex_8e157 : ckS yJ3_checkIndex_8e157 cJ3_checkIndex_8e157 3 (some .int) 3 := ⟨(gw_in m_448 rfl), (gw_in m_74 rfl), (gw_in m_447 rfl), by decide +kernel, by decide +kernel, by decide +kernel⟩
theorem ckJ0_checkIndex_df160 : ckS yJ0_checkIndex_df160 cJ0_checkIndex_df160 2 none 2 := ⟨(gw_in m_443 rfl), (gw_in m_72 rfl), (gw_in m_442 rfl), by decide +kernel, by decide +kernel, by decide +kernel⟩
theorem ckJ1_charAt_3b067 : ckS yJ1_charAt_3b067 cJ1_charAt_3b067 2 (some .char) 2 := ⟨(gw_in m_440 rfl), (gw_in m_73 rfl), (gw_in m_439 rfl), by decide +kernel, by decide +kernel, by decide +kernel⟩
theorem ckJ0_charAt_5068e : ckV yJ0_charAt_5068e cJ0_charAt_5068e 2 (some .char) 1 := ⟨(gw_in m_433 rfl), (gw_in m_72 rfl), ⟨(gw_in m_431 rfl), (gw_in m_432 rfl)⟩, by decide +kernel, by decide +kernel, by decide +kernel⟩
theorem ckX5_spells : ckV yX5_spells cX5_spells 3 (some .boolean) 1 := ⟨(gw_in m_419 rfl), (gw_in m_68 rfl), ⟨(gw_in m_418 rfl), (gw_in m_7 rfl)⟩, by decide +kernel, by decide +kernel, by decide +kernel⟩
set_option maxHeartbeats 4000000 in
set_option maxRecDepth 100000 in
theorem kJ0_coder_7d493 (l : Launch) (q9 : sQ) (i : Nat) (hi5 : i < 5) : Met l yJ0_coder_7d493 (.code yJ0_coder_7d493 cJ0_coder_7d493 1 (some .byte) :: gw) (rmN 0) (va_Pc [.ref (q9.1 i)] (fun U => kS q9 (fun _ => False) U U.heap)) (vp_Si (fun v => v = 0)) 0 0 (fun _ => False) := by
  refine met_start (by decide) (Nat.le_of_ble_eq_true rfl) ?_
  intro pp ee ss mm bl mt cd hC hpre ls hl
  obtain ⟨⟨hx, hb, hml, hown, hts⟩, hr, hlk, hnm⟩ := id hC
  have hl : lv_has ls 1 [(0, .ref (q9.1 i))] := hl
  have hZ := hpre
  have hS : va_S (fun _ => False) ss.heap ss.heap [] := va_S.rf
  refine va_gets hx hb hZ.2.1 hS hown (hts _ (gw_in m_428 rfl)) (fun _ h => h) dJ0_coder_7d493_0 ?_
  refine lv_if_eq (tgt := 13) hx hb dJ0_coder_7d493_3 (by decide) (fun c1 => ?_) (fun c1 => ?_)
  · skip
    exact absurd c1 (by decide)
  · skip
    refine lv_aload_n hx hb dJ0_coder_7d493_6 rfl (lv_at hl 0 rfl) ?_
    refine vk_getf hx hb (hZ.1.1 i hi5).2.1 hS hown (hts _ (gw_in m_1397 rfl)) (fun _ h => h) dJ0_coder_7d493_7 ?_
    refine lv_goto (tgt := 14) hx hb dJ0_coder_7d493_10 (by decide) ?_
    exact ret_ron hx hb hr hlk rfl (by rfl) dJ0_coder_7d493_14
set_option maxHeartbeats 4000000 in
set_option maxRecDepth 100000 in
theorem kJ0_length_8abf5 (l : Launch) (q9 : sQ) (i : Nat) (hi5 : i < 5) : Met l yJ0_length_8abf5 (.code yJ0_length_8abf5 cJ0_length_8abf5 1 (some .int) :: gw) (rmN 1) (va_Pc [.ref (q9.1 i)] (fun U => kS q9 (fun _ => False) U U.heap)) (vp_Si (fun v => v = (nI (swL.getD i 0)))) 0 0 (fun _ => False) := by
  refine met_start (by decide) (Nat.le_of_ble_eq_true rfl) ?_
  intro pp ee ss mm bl mt cd hC hpre ls hl
  obtain ⟨⟨hx, hb, hml, hown, hts⟩, hr, hlk, hnm⟩ := id hC
  have hl : lv_has ls 1 [(0, .ref (q9.1 i))] := hl
  have hZ := hpre
  have hS : va_S (fun _ => False) ss.heap ss.heap [] := va_S.rf
  refine lv_aload_n hx hb dJ0_length_8abf5_0 rfl (lv_at hl 0 rfl) ?_
  refine vk_getf hx hb (hZ.1.1 i hi5).2.2.1 hS hown (hts _ (gw_in m_1396 rfl)) (fun _ h => h) dJ0_length_8abf5_1 ?_
  refine va_tlen (v := nI (swL.getD i 0)) hx hb (hZ.1.1 i hi5).2.2.2 hS rfl dJ0_length_8abf5_4 ?_
  refine lv_aload_n hx hb dJ0_length_8abf5_5 rfl (lv_at hl 0 rfl) ?_
  refine ro_i (run_V (As := []) (rest := [.int (nI (swL.getD i 0))]) hC.1 ckJ0_coder_7d493 (kJ0_coder_7d493 l q9 i hi5) (gw_in m_424 rfl) (fb_S _ _ _) (vk_recv hZ.1 hi5 hS) (fun U hU hW => kS_go (fun _ h => h.elim) hZ hS hU hW) ⟨rfl, rfl, Nat.le_of_ble_eq_true rfl, Nat.le_of_ble_eq_true rfl⟩ rfl hl.1 rfl (Nat.le_of_ble_eq_true rfl) dJ0_length_8abf5_6 ⟨Nat.le_of_ble_eq_true rfl, Nat.le_of_ble_eq_true rfl⟩) ?_
  refine lv_ishr hx hb dJ0_length_8abf5_9 ?_
  refine top_i (x := (nI (swL.getD i 0)) >>> (0 &&& 31)) (y := nI (swL.getD i 0)) (sc_shr0 (sw_len i hi5)) ?_
  exact ret_roi hx hb hr hlk (by rfl) dJ0_length_8abf5_10
set_option maxHeartbeats 4000000 in
set_option maxRecDepth 100000 in
theorem kJ0_isLatin1_aae02 (l : Launch) (q9 : sQ) (i : Nat) (hi5 : i < 5) : Met l yJ0_isLatin1_aae02 (.code yJ0_isLatin1_aae02 cJ0_isLatin1_aae02 1 (some .boolean) :: gw) (rmN 0) (va_Pc [.ref (q9.1 i)] (fun U => kS q9 (fun _ => False) U U.heap)) (vp_Si (fun v => v = (b2i true))) 0 0 (fun _ => False) := by
  refine met_start (by decide) (Nat.le_of_ble_eq_true rfl) ?_
  intro pp ee ss mm bl mt cd hC hpre ls hl
  obtain ⟨⟨hx, hb, hml, hown, hts⟩, hr, hlk, hnm⟩ := id hC
  have hl : lv_has ls 1 [(0, .ref (q9.1 i))] := hl
  have hZ := hpre
  have hS : va_S (fun _ => False) ss.heap ss.heap [] := va_S.rf
  refine va_gets hx hb hZ.2.1 hS hown (hts _ (gw_in m_428 rfl)) (fun _ h => h) dJ0_isLatin1_aae02_0 ?_
  refine lv_if_eq (tgt := 17) hx hb dJ0_isLatin1_aae02_3 (by decide) (fun c1 => ?_) (fun c1 => ?_)
  · skip
    exact absurd c1 (by decide)
  · skip
    refine lv_aload_n hx hb dJ0_isLatin1_aae02_6 rfl (lv_at hl 0 rfl) ?_
    refine vk_getf hx hb (hZ.1.1 i hi5).2.1 hS hown (hts _ (gw_in m_1397 rfl)) (fun _ h => h) dJ0_isLatin1_aae02_7 ?_
    refine lv_if_ne (tgt := 17) hx hb dJ0_isLatin1_aae02_10 (by decide) (fun c2 => ?_) (fun c2 => ?_)
    · skip
      exact absurd c2 (by decide)
    · skip
      refine lv_iconst (v := 1) hx hb dJ0_isLatin1_aae02_13 rfl ?_
      refine lv_goto (tgt := 18) hx hb dJ0_isLatin1_aae02_14 (by decide) ?_
      exact ret_roz hx hb hr hlk rfl (by rfl) dJ0_isLatin1_aae02_18
set_option maxHeartbeats 4000000 in
set_option maxRecDepth 100000 in
theorem kJ3_ck_N (l : Launch) (k n : Nat) (hk : k < n) (hn : n < 1000) : Met l yJ3_checkIndex_8e157 (.code yJ3_checkIndex_8e157 cJ3_checkIndex_8e157 3 (some .int) :: gw) (rmN 0) (va_Pc [.int (nI k), .int (nI n), .null] (fun _ => True)) (vp_Si (fun v => v = (nI k))) 0 0 (fun _ => False) := by
  refine met_start (by decide) (Nat.le_of_ble_eq_true rfl) ?_
  intro pp ee ss mm bl mt cd hC hpre ls hl
  obtain ⟨⟨hx, hb, hml, hown, hts⟩, hr, hlk, hnm⟩ := id hC
  have hl : lv_has ls 3 [(0, .int (nI k)), (1, .int (nI n)), (2, .null)] := hl
  refine lv_iload_n hx hb dJ3_checkIndex_8e157_0 rfl (lv_at hl 0 rfl) ?_
  refine lv_if_lt (tgt := 9) hx hb dJ3_checkIndex_8e157_1 (by decide) (fun c1 => ?_) (fun c1 => ?_)
  · skip
    have c1' := Int32.not_le.mpr c1
    exact absurd c1 (nI_pos (by omega))
  · skip
    have c1' := Int32.not_lt.mp c1
    refine lv_iload_n hx hb dJ3_checkIndex_8e157_4 rfl (lv_at hl 0 rfl) ?_
    refine lv_iload_n hx hb dJ3_checkIndex_8e157_5 rfl (lv_at hl 1 rfl) ?_
    refine lv_icmp_lt (tgt := 16) hx hb dJ3_checkIndex_8e157_6 (by decide) (fun c2 => ?_) (fun c2 => ?_)
    · skip
      have c2' := Int32.not_le.mpr c2
      refine lv_iload_n hx hb dJ3_checkIndex_8e157_16 rfl (lv_at hl 0 rfl) ?_
      exact ret_roi hx hb hr hlk (by rfl) dJ3_checkIndex_8e157_17
    · skip
      have c2' := Int32.not_lt.mp c2
      exact absurd (nI_lt hk (by omega)) c2
set_option maxHeartbeats 4000000 in
set_option maxRecDepth 100000 in
theorem kJ3_ck_R (l : Launch) (k n : Nat) (z : Nat) (hk : k < n) (hn : n < 1000) : Met l yJ3_checkIndex_8e157 (.code yJ3_checkIndex_8e157 cJ3_checkIndex_8e157 3 (some .int) :: gw) (rmN 0) (va_Pc [.int (nI k), .int (nI n), .ref (z)] (fun _ => True)) (vp_Si (fun v => v = (nI k))) 0 0 (fun _ => False) := by
  refine met_start (by decide) (Nat.le_of_ble_eq_true rfl) ?_
  intro pp ee ss mm bl mt cd hC hpre ls hl
  obtain ⟨⟨hx, hb, hml, hown, hts⟩, hr, hlk, hnm⟩ := id hC
  have hl : lv_has ls 3 [(0, .int (nI k)), (1, .int (nI n)), (2, .ref (z))] := hl
  refine lv_iload_n hx hb dJ3_checkIndex_8e157_0 rfl (lv_at hl 0 rfl) ?_
  refine lv_if_lt (tgt := 9) hx hb dJ3_checkIndex_8e157_1 (by decide) (fun c1 => ?_) (fun c1 => ?_)
  · skip
    have c1' := Int32.not_le.mpr c1
    exact absurd c1 (nI_pos (by omega))
  · skip
    have c1' := Int32.not_lt.mp c1
    refine lv_iload_n hx hb dJ3_checkIndex_8e157_4 rfl (lv_at hl 0 rfl) ?_
    refine lv_iload_n hx hb dJ3_checkIndex_8e157_5 rfl (lv_at hl 1 rfl) ?_
    refine lv_icmp_lt (tgt := 16) hx hb dJ3_checkIndex_8e157_6 (by decide) (fun c2 => ?_) (fun c2 => ?_)
    · skip
      have c2' := Int32.not_le.mpr c2
      refine lv_iload_n hx hb dJ3_checkIndex_8e157_16 rfl (lv_at hl 0 rfl) ?_
      exact ret_roi hx hb hr hlk (by rfl) dJ3_checkIndex_8e157_17
    · skip
      have c2' := Int32.not_lt.mp c2
      exact absurd (nI_lt hk (by omega)) c2
set_option maxHeartbeats 4000000 in
set_option maxRecDepth 100000 in
theorem kJ0_checkIndex_df160 (l : Launch) (q9 : sQ) (k n : Nat) (hk : k < n) (hn : n < 1000) : Met l yJ0_checkIndex_df160 (.code yJ0_checkIndex_df160 cJ0_checkIndex_df160 2 none :: gw) (rmN 1) (va_Pc [.int (nI k), .int (nI n)] (fun U => kS q9 (fun _ => False) U U.heap)) rvQ 0 0 (fun _ => False) := by
  refine met_start (by decide) (Nat.le_of_ble_eq_true rfl) ?_
  intro pp ee ss mm bl mt cd hC hpre ls hl
  obtain ⟨⟨hx, hb, hml, hown, hts⟩, hr, hlk, hnm⟩ := id hC
  have hl : lv_has ls 2 [(0, .int (nI k)), (1, .int (nI n))] := hl
  have hZ := hpre
  have hS : va_S (fun _ => False) ss.heap ss.heap [] := va_S.rf
  refine lv_iload_n hx hb dJ0_checkIndex_df160_0 rfl (lv_at hl 0 rfl) ?_
  refine lv_iload_n hx hb dJ0_checkIndex_df160_1 rfl (lv_at hl 1 rfl) ?_
  rcases hZ.2.2.1 with hf9 | ⟨z9, hf9⟩
  · skip
    refine va_gets hx hb hf9 hS hown (hts _ (gw_in m_444 rfl)) (fun _ h => h) dJ0_checkIndex_df160_2 ?_
    refine ro_i (run_S (As := [.int (nI k), .int (nI n), .null]) (rest := []) hC.1 ckJ3_checkIndex_8e157 (kJ3_ck_N l k n hk hn) (gw_in m_446 rfl) (fb_nil _) (fun _ _ _ => trivial) ⟨rfl, rfl, Nat.le_of_ble_eq_true rfl, Nat.le_of_ble_eq_true rfl⟩ rfl hl.1 rfl (Nat.le_of_ble_eq_true rfl) dJ0_checkIndex_df160_5 ⟨Nat.le_of_ble_eq_true rfl, Nat.le_of_ble_eq_true rfl⟩) ?_
    refine lv_pop hx hb dJ0_checkIndex_df160_8 rfl ?_
    exact ret_rov hx hb hr hlk dJ0_checkIndex_df160_9
  · skip
    refine va_gets hx hb hf9 hS hown (hts _ (gw_in m_444 rfl)) (fun _ h => h) dJ0_checkIndex_df160_2 ?_
    refine ro_i (run_S (As := [.int (nI k), .int (nI n), .ref (z9)]) (rest := []) hC.1 ckJ3_checkIndex_8e157 (kJ3_ck_R l k n z9 hk hn) (gw_in m_446 rfl) (fb_nil _) (fun _ _ _ => trivial) ⟨rfl, rfl, Nat.le_of_ble_eq_true rfl, Nat.le_of_ble_eq_true rfl⟩ rfl hl.1 rfl (Nat.le_of_ble_eq_true rfl) dJ0_checkIndex_df160_5 ⟨Nat.le_of_ble_eq_true rfl, Nat.le_of_ble_eq_true rfl⟩) ?_
    refine lv_pop hx hb dJ0_checkIndex_df160_8 rfl ?_
    exact ret_rov hx hb hr hlk dJ0_checkIndex_df160_9
set_option maxHeartbeats 4000000 in
set_option maxRecDepth 100000 in
theorem kJ1_charAt_3b067 (l : Launch) (q9 : sQ) (i k : Nat) (hi5 : i < 5) (hk : k < swL.getD i 0) : Met l yJ1_charAt_3b067 (.code yJ1_charAt_3b067 cJ1_charAt_3b067 2 (some .char) :: gw) (rmN 2) (va_Pc [.ref (q9.2 i), .int (nI k)] (fun U => kS q9 (fun _ => False) U U.heap)) (vp_Si (fun v => v = (swC i k))) 0 0 (fun _ => False) := by
  refine met_start (by decide) (Nat.le_of_ble_eq_true rfl) ?_
  intro pp ee ss mm bl mt cd hC hpre ls hl
  obtain ⟨⟨hx, hb, hml, hown, hts⟩, hr, hlk, hnm⟩ := id hC
  have hl : lv_has ls 2 [(0, .ref (q9.2 i)), (1, .int (nI k))] := hl
  have hZ := hpre
  have hS : va_S (fun _ => False) ss.heap ss.heap [] := va_S.rf
  refine lv_iload_n hx hb dJ1_charAt_3b067_0 rfl (lv_at hl 1 rfl) ?_
  refine lv_aload_n hx hb dJ1_charAt_3b067_1 rfl (lv_at hl 0 rfl) ?_
  refine va_tlen (v := nI (swL.getD i 0)) hx hb (hZ.1.1 i hi5).2.2.2 hS rfl dJ1_charAt_3b067_2 ?_
  refine ro_v (run_S (As := [.int (nI k), .int (nI (swL.getD i 0))]) (rest := []) hC.1 ckJ0_checkIndex_df160 (kJ0_checkIndex_df160 l q9 k (swL.getD i 0) hk (sw_l6 i hi5)) (gw_in m_441 rfl) (fb_S _ _ _) (fun U hU hW => kS_go (fun _ h => h.elim) hZ hS hU hW) ⟨rfl, rfl, Nat.le_of_ble_eq_true rfl, Nat.le_of_ble_eq_true rfl⟩ rfl hl.1 rfl (Nat.le_of_ble_eq_true rfl) dJ1_charAt_3b067_3 ⟨Nat.le_of_ble_eq_true rfl, Nat.le_of_ble_eq_true rfl⟩) ?_
  refine lv_aload_n hx hb dJ1_charAt_3b067_6 rfl (lv_at hl 0 rfl) ?_
  refine lv_iload_n hx hb dJ1_charAt_3b067_7 rfl (lv_at hl 1 rfl) ?_
  refine va_tb (v := .int ((swB.getD i []).getD k 0)) hx hb (hZ.1.1 i hi5).2.2.2 hS (vp_in_nI hk (by have := sw_l6 i hi5; omega)) (by rw [show (nI k).toNatClampNeg = k from cl_nI (by have := sw_l6 i hi5; omega)]) dJ1_charAt_3b067_8 ?_
  refine lv_sipush (v := 255) hx hb dJ1_charAt_3b067_9 rfl ?_
  refine lv_iand hx hb dJ1_charAt_3b067_12 ?_
  refine top_i (x := ((swB.getD i []).getD k 0) &&& 255) (y := swC i k) rfl ?_
  refine lv_i2c (x := swC i k) (v := swC i k) hx hb dJ1_charAt_3b067_13 (sc_c2 _) ?_
  exact ret_ron hx hb hr hlk (sc_nar _) (by rfl) dJ1_charAt_3b067_14
set_option maxHeartbeats 4000000 in
set_option maxRecDepth 100000 in
theorem kJ0_charAt_5068e (l : Launch) (q9 : sQ) (i k : Nat) (hi5 : i < 5) (hk : k < swL.getD i 0) : Met l yJ0_charAt_5068e (.code yJ0_charAt_5068e cJ0_charAt_5068e 2 (some .char) :: gw) (rmN 3) (va_Pc [.ref (q9.1 i), .int (nI k)] (fun U => kS q9 (fun _ => False) U U.heap)) (vp_Si (fun v => v = (swC i k))) 0 0 (fun _ => False) := by
  refine met_start (by decide) (Nat.le_of_ble_eq_true rfl) ?_
  intro pp ee ss mm bl mt cd hC hpre ls hl
  obtain ⟨⟨hx, hb, hml, hown, hts⟩, hr, hlk, hnm⟩ := id hC
  have hl : lv_has ls 2 [(0, .ref (q9.1 i)), (1, .int (nI k))] := hl
  have hZ := hpre
  have hS : va_S (fun _ => False) ss.heap ss.heap [] := va_S.rf
  refine lv_aload_n hx hb dJ0_charAt_5068e_0 rfl (lv_at hl 0 rfl) ?_
  refine ro_i (run_V (As := []) (rest := []) hC.1 ckJ0_isLatin1_aae02 (kJ0_isLatin1_aae02 l q9 i hi5) (gw_in m_434 rfl) (fb_S _ _ _) (vk_recv hZ.1 hi5 hS) (fun U hU hW => kS_go (fun _ h => h.elim) hZ hS hU hW) ⟨rfl, rfl, Nat.le_of_ble_eq_true rfl, Nat.le_of_ble_eq_true rfl⟩ rfl hl.1 rfl (Nat.le_of_ble_eq_true rfl) dJ0_charAt_5068e_1 ⟨Nat.le_of_ble_eq_true rfl, Nat.le_of_ble_eq_true rfl⟩) ?_
  refine top_i (x := b2i true) (y := 1) rfl ?_
  refine lv_if_eq (tgt := 16) hx hb dJ0_charAt_5068e_4 (by decide) (fun c1 => ?_) (fun c1 => ?_)
  · skip
    exact absurd c1 (by decide)
  · skip
    refine lv_aload_n hx hb dJ0_charAt_5068e_7 rfl (lv_at hl 0 rfl) ?_
    refine vk_getf hx hb (hZ.1.1 i hi5).2.2.1 hS hown (hts _ (gw_in m_1396 rfl)) (fun _ h => h) dJ0_charAt_5068e_8 ?_
    refine lv_iload_n hx hb dJ0_charAt_5068e_11 rfl (lv_at hl 1 rfl) ?_
    refine ro_i (run_S (As := [.ref (q9.2 i), .int (nI k)]) (rest := []) hC.1 ckJ1_charAt_3b067 (kJ1_charAt_3b067 l q9 i k hi5 hk) (gw_in m_438 rfl) (fb_S _ _ _) (fun U hU hW => kS_go (fun _ h => h.elim) hZ hS hU hW) ⟨rfl, rfl, Nat.le_of_ble_eq_true rfl, Nat.le_of_ble_eq_true rfl⟩ rfl hl.1 rfl (Nat.le_of_ble_eq_true rfl) dJ0_charAt_5068e_12 ⟨Nat.le_of_ble_eq_true rfl, Nat.le_of_ble_eq_true rfl⟩) ?_
    exact ret_ron hx hb hr hlk (sc_nar _) (by rfl) dJ0_charAt_5068e_15
set_option maxHeartbeats 4000000 in
set_option maxRecDepth 100000 in
theorem kX5_spells (l : Launch) (g : gG) (q9 : sQ) (x : Nat → Nat) (N : Nat) (flt : Int32) (f : Nat → Int32) (so : Int32) (sta beh : Nat) (va : Int32) (i : Nat) (hi5 : i < 5) (hN : N ≤ 150) (hsb : so = 1 → sta ≤ beh ∧ beh ≤ N) : Met l yX5_spells (.code yX5_spells cX5_spells 3 (some .boolean) :: gw) (rmN 4) (va_Pc [.ref (x 0), .ref (q9.1 i)] (fun U => roPre g (xW g x N flt f so sta beh va) U ∧ kS q9 (fun _ => False) U U.heap)) (vp_Si (fun v => v = (b2i (spB f N so sta beh i)))) 0 0 (fun _ => False) := by
  refine met_start (by decide) (Nat.le_of_ble_eq_true rfl) ?_
  intro pp ee ss mm bl mt cd hC hpre ls hl
  obtain ⟨⟨hx, hb, hml, hown, hts⟩, hr, hlk, hnm⟩ := id hC
  have hl : lv_has ls 3 [(0, .ref (x 0)), (1, .ref (q9.1 i))] := hl
  obtain ⟨⟨hP, hK⟩, hZ⟩ := hpre
  have hS : va_S (fun _ => False) ss.heap ss.heap [] := va_S.rf
  refine lv_aload_n hx hb dX5_spells_0 rfl (lv_at hl 0 rfl) ?_
  refine kget hC.1 hK hP 0 rfl rfl in_5 3 (by decide) (gw_in m_213 rfl) rfl dX5_spells_1 ?_
  refine lv_iconst (v := 1) hx hb dX5_spells_4 rfl ?_
  refine lv_icmp_ne (tgt := 24) hx hb dX5_spells_5 (by decide) (fun c1 => ?_) (fun c1 => ?_)
  · skip
    have hso : ¬ so = 1 := c1
    refine lv_iconst (v := 0) hx hb dX5_spells_24 rfl ?_
    exact ret_roz hx hb hr hlk rfl (by rw [sp_so hso]; rfl) dX5_spells_25
  · skip
    have hso : so = 1 := c1
    have hsb2 := hsb hso
    have h6 := sw_l6 i hi5
    refine lv_aload_n hx hb dX5_spells_8 rfl (lv_at hl 0 rfl) ?_
    refine kget hC.1 hK hP 0 rfl rfl in_5 5 (by decide) (gw_in m_215 rfl) rfl dX5_spells_9 ?_
    refine lv_aload_n hx hb dX5_spells_12 rfl (lv_at hl 0 rfl) ?_
    refine kget hC.1 hK hP 0 rfl rfl in_5 4 (by decide) (gw_in m_214 rfl) rfl dX5_spells_13 ?_
    refine lv_isub hx hb dX5_spells_16 ?_
    refine top_i (x := (nI beh) - (nI sta)) (y := nI (beh - sta)) (pk_sub hsb2.1) ?_
    refine lv_aload_n hx hb dX5_spells_17 rfl (lv_at hl 1 rfl) ?_
    refine ro_i (run_V (As := []) (rest := [.int (nI (beh - sta))]) hC.1 ckJ0_length_8abf5 (kJ0_length_8abf5 l q9 i hi5) (gw_in m_420 rfl) (fb_S _ _ _) (vk_recv hZ.1 hi5 hS) (fun U hU hW => kS_go (fun _ h => h.elim) hZ hS hU hW) ⟨rfl, rfl, Nat.le_of_ble_eq_true rfl, Nat.le_of_ble_eq_true rfl⟩ rfl hl.1 rfl (Nat.le_of_ble_eq_true rfl) dX5_spells_18 ⟨Nat.le_of_ble_eq_true rfl, Nat.le_of_ble_eq_true rfl⟩) ?_
    refine lv_icmp_eq (tgt := 26) hx hb dX5_spells_21 (by decide) (fun c2 => ?_) (fun c2 => ?_)
    · skip
      have hle : beh - sta = swL.getD i 0 := by rw [nI_eq (by omega) (by omega)] at c2; exact c2
      refine lv_iconst (v := 0) hx hb dX5_spells_26 rfl ?_
      refine lv_istore_n (lv' := [(2, .int (0)), (0, .ref (x 0)), (1, .ref (q9.1 i))]) hx hb dX5_spells_27 rfl hl (by decide) rfl (fun ls hl => ?_)
      have cut28 : ∀ kk : Nat, ∀ (k : Nat), 1001 - k < kk → (hk : k ≤ swL.getD i 0) → (hall : ∀ z, z < k → f (sta + z) = swC i z) → ∀ (ls : Array Slot), lv_has ls 3 [(0, .ref (x 0)), (1, .ref (q9.1 i)), (2, .int (nI k))] → W pp l ee (rmN 4) ss mm ([.ref (x 0), .ref (q9.1 i)] : List Value).toArray bl mt cd ss.heap [] 0 0 (MQ bl (vp_Si (fun v => v = (b2i (spB f N so sta beh i)))) ([.ref (x 0), .ref (q9.1 i)] : List Value).toArray ss 0 0 (fun _ => False)) (F0 mm 28 ls []) := by
        intro kk
        induction kk with
        | zero => intro k hmu; exact absurd hmu (Nat.not_lt_zero _)
        | succ kk ih28 =>
          intro k hmu hk hall ls hl
          refine lv_iload_n hx hb dX5_spells_28 rfl (lv_at hl 2 rfl) ?_
          refine lv_aload_n hx hb dX5_spells_29 rfl (lv_at hl 1 rfl) ?_
          refine ro_i (run_V (As := []) (rest := [.int (nI k)]) hC.1 ckJ0_length_8abf5 (kJ0_length_8abf5 l q9 i hi5) (gw_in m_420 rfl) (fb_S _ _ _) (vk_recv hZ.1 hi5 hS) (fun U hU hW => kS_go (fun _ h => h.elim) hZ hS hU hW) ⟨rfl, rfl, Nat.le_of_ble_eq_true rfl, Nat.le_of_ble_eq_true rfl⟩ rfl hl.1 rfl (Nat.le_of_ble_eq_true rfl) dX5_spells_30 ⟨Nat.le_of_ble_eq_true rfl, Nat.le_of_ble_eq_true rfl⟩) ?_
          refine lv_icmp_ge (tgt := 62) hx hb dX5_spells_33 (by decide) (fun c3 => ?_) (fun c3 => ?_)
          · skip
            have c3' := Int32.not_lt.mpr c3
            have hk9 : k = swL.getD i 0 := by rw [nI_leI (by omega) (by omega)] at c3; omega
            refine lv_iconst (v := 1) hx hb dX5_spells_62 rfl ?_
            exact ret_roz hx hb hr hlk rfl (by rw [sp_ok hso hle (by rw [← hk9]; exact hall)]; rfl) dX5_spells_63
          · skip
            have c3' := Int32.not_le.mp c3
            have hk9 : k < swL.getD i 0 := by rw [nI_leI (by omega) (by omega)] at c3; omega
            refine lv_aload_n hx hb dX5_spells_36 rfl (lv_at hl 0 rfl) ?_
            refine lv_aload_n hx hb dX5_spells_37 rfl (lv_at hl 0 rfl) ?_
            refine kget hC.1 hK hP 0 rfl rfl in_5 4 (by decide) (gw_in m_214 rfl) rfl dX5_spells_38 ?_
            refine lv_iload_n hx hb dX5_spells_41 rfl (lv_at hl 2 rfl) ?_
            refine lv_iadd hx hb dX5_spells_42 ?_
            refine top_i (x := (nI sta) + (nI k)) (y := nI (sta + k)) (nI_add _ _) ?_
            refine ro_i (run_V (As := [.int (nI (sta + k))]) (rest := []) hC.1 ckX5_byteAt (kX5_byteAt l g x N flt f so sta beh va (sta + k) hN (by omega)) (gw_in m_393 rfl) (fb_ro _ _ _) (va_recv hK.1 hP (q0 := 0) rfl rfl) (fun U hU hW => ⟨by rw [hU]; exact hP, kK_warm hW hK⟩) ⟨rfl, rfl, Nat.le_of_ble_eq_true rfl, Nat.le_of_ble_eq_true rfl⟩ rfl hl.1 rfl (Nat.le_of_ble_eq_true rfl) dX5_spells_43 ⟨Nat.le_of_ble_eq_true rfl, Nat.le_of_ble_eq_true rfl⟩) ?_
            refine top_i (x := bAt f N (sta + k)) (y := f (sta + k)) (if_pos (by omega)) ?_
            refine lv_aload_n hx hb dX5_spells_46 rfl (lv_at hl 1 rfl) ?_
            refine lv_iload_n hx hb dX5_spells_47 rfl (lv_at hl 2 rfl) ?_
            refine ro_i (run_V (As := [.int (nI k)]) (rest := [.int (f (sta + k))]) hC.1 ckJ0_charAt_5068e (kJ0_charAt_5068e l q9 i k hi5 hk9) (gw_in m_430 rfl) (fb_S _ _ _) (vk_recv hZ.1 hi5 hS) (fun U hU hW => kS_go (fun _ h => h.elim) hZ hS hU hW) ⟨rfl, rfl, Nat.le_of_ble_eq_true rfl, Nat.le_of_ble_eq_true rfl⟩ rfl hl.1 rfl (Nat.le_of_ble_eq_true rfl) dX5_spells_48 ⟨Nat.le_of_ble_eq_true rfl, Nat.le_of_ble_eq_true rfl⟩) ?_
            refine lv_icmp_eq (tgt := 56) hx hb dX5_spells_51 (by decide) (fun c4 => ?_) (fun c4 => ?_)
            · skip
              refine lv_iinc (v := nI (k + 1)) (lv' := [(2, .int (nI (k + 1))), (0, .ref (x 0)), (1, .ref (q9.1 i))]) hx hb dX5_spells_56 hl (k := 2) rfl (inc_nI k) (by decide) rfl (fun ls hl => ?_)
              refine lv_goto (tgt := 28) hx hb dX5_spells_59 (by decide) ?_
              exact ih28 (k + 1) (by have := sw_l6 i hi5; omega) (by omega) (lt_sp hall c4) _ (lv_sub hl [1, 2, 0] rfl)
            · skip
              refine lv_iconst (v := 0) hx hb dX5_spells_54 rfl ?_
              exact ret_roz hx hb hr hlk rfl (by rw [sp_ne hk9 c4]; rfl) dX5_spells_55
      exact cut28 _ 0 (Nat.lt_succ_self _) (Nat.zero_le _) (fun j h => absurd h (Nat.not_lt_zero j)) _ (lv_sub hl [1, 2, 0] rfl)
    · skip
      have hle : ¬ beh - sta = swL.getD i 0 := fun e9 => c2 (by rw [e9])
      refine lv_iconst (v := 0) hx hb dX5_spells_24 rfl ?_
      exact ret_roz hx hb hr hlk rfl (by rw [sp_le hle]; rfl) dX5_spells_25
