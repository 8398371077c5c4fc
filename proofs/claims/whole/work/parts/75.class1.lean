theorem ckX8_bad : ckV yX8_bad cX8_bad 1 (some .int) 0 := ⟨(gw_in m_323 rfl), (gw_in m_62 rfl), ⟨(gw_in m_322 rfl), (gw_in m_0 rfl)⟩, by decide +kernel, by decide +kernel, by decide +kernel⟩
theorem ckX8_badBelow : ckV yX8_badBelow cX8_badBelow 1 (some .int) 0 := ⟨(gw_in m_680 rfl), (gw_in m_62 rfl), ⟨(gw_in m_679 rfl), (gw_in m_21 rfl)⟩, by decide +kernel, by decide +kernel, by decide +kernel⟩
theorem ckX8_no : ckV yX8_no cX8_no 1 (some .int) 0 := ⟨(gw_in m_578 rfl), (gw_in m_62 rfl), ⟨(gw_in m_577 rfl), (gw_in m_18 rfl)⟩, by decide +kernel, by decide +kernel, by decide +kernel⟩
theorem ckX8_full : ckV yX8_full cX8_full 1 (some .int) 0 := ⟨(gw_in m_346 rfl), (gw_in m_62 rfl), ⟨(gw_in m_345 rfl), (gw_in m_1 rfl)⟩, by decide +kernel, by decide +kernel, by decide +kernel⟩
theorem ckX8_areTwoNuts : ckV yX8_areTwoNuts cX8_areTwoNuts 3 (some .boolean) 2 := ⟨(gw_in m_572 rfl), (gw_in m_62 rfl), ⟨(gw_in m_571 rfl), (gw_in m_17 rfl)⟩, by decide +kernel, by decide +kernel, by decide +kernel⟩
theorem ckX8_yard : ckV yX8_yard cX8_yard 3 (some .int) 1 := ⟨(gw_in m_316 rfl), (gw_in m_62 rfl), ⟨(gw_in m_314 rfl), (gw_in m_315 rfl)⟩, by decide +kernel, by decide +kernel, by decide +kernel⟩
theorem ckX8_player : ckV yX8_player cX8_player 3 (some .int) 2 := ⟨(gw_in m_339 rfl), (gw_in m_62 rfl), ⟨(gw_in m_337 rfl), (gw_in m_338 rfl)⟩, by decide +kernel, by decide +kernel, by decide +kernel⟩
theorem ckX8_nut : ckV yX8_nut cX8_nut 5 (some .int) 4 := ⟨(gw_in m_355 rfl), (gw_in m_62 rfl), ⟨(gw_in m_353 rfl), (gw_in m_354 rfl)⟩, by decide +kernel, by decide +kernel, by decide +kernel⟩
theorem ckX8_type : ckV yX8_type cX8_type 2 (some .int) 1 := ⟨(gw_in m_367 rfl), (gw_in m_62 rfl), ⟨(gw_in m_365 rfl), (gw_in m_366 rfl)⟩, by decide +kernel, by decide +kernel, by decide +kernel⟩
theorem ckX8_clear : ckV yX8_clear cX8_clear 2 (some .int) 0 := ⟨(gw_in m_379 rfl), (gw_in m_62 rfl), ⟨(gw_in m_377 rfl), (gw_in m_378 rfl)⟩, by decide +kernel, by decide +kernel, by decide +kernel⟩
theorem ckX8_strikes : ckV yX8_strikes cX8_strikes 3 (some .int) 2 := ⟨(gw_in m_568 rfl), (gw_in m_62 rfl), ⟨(gw_in m_566 rfl), (gw_in m_567 rfl)⟩, by decide +kernel, by decide +kernel, by decide +kernel⟩
theorem ckX8_waits : ckV yX8_waits cX8_waits 2 (some .int) 1 := ⟨(gw_in m_600 rfl), (gw_in m_62 rfl), ⟨(gw_in m_598 rfl), (gw_in m_599 rfl)⟩, by decide +kernel, by decide +kernel, by decide +kernel⟩
theorem ckX8_hands : ckV yX8_hands cX8_hands 4 (some .int) 2 := ⟨(gw_in m_605 rfl), (gw_in m_62 rfl), ⟨(gw_in m_603 rfl), (gw_in m_604 rfl)⟩, by decide +kernel, by decide +kernel, by decide +kernel⟩
theorem ckX8_undo : ckV yX8_undo cX8_undo 1 (some .int) 0 := ⟨(gw_in m_614 rfl), (gw_in m_62 rfl), ⟨(gw_in m_612 rfl), (gw_in m_613 rfl)⟩, by decide +kernel, by decide +kernel, by decide +kernel⟩
theorem ckX8_of : ckV yX8_of cX8_of 3 (some .int) 2 := ⟨(gw_in m_622 rfl), (gw_in m_62 rfl), ⟨(gw_in m_620 rfl), (gw_in m_621 rfl)⟩, by decide +kernel, by decide +kernel, by decide +kernel⟩
theorem ckX8_who : ckV yX8_who cX8_who 3 (some .int) 2 := ⟨(gw_in m_626 rfl), (gw_in m_62 rfl), ⟨(gw_in m_624 rfl), (gw_in m_625 rfl)⟩, by decide +kernel, by decide +kernel, by decide +kernel⟩
set_option maxHeartbeats 4000000 in
set_option maxRecDepth 100000 in
theorem kX8_bad (l : Launch) (g : gG) (x : Nat → Nat) (nw im te tr gu : Nat) (ab be : Int64) (tb tn tf : Int32)  : Met l yX8_bad (.code yX8_bad cX8_bad 1 (some .int) :: gw) (rmN 0) (va_Pc [.ref (x 0)] (rwPre g (cO g x nw im te tr gu ab be tb tn tf ++ []))) (rwQi g (cO g x nw im te tr gu ab be tb tn tf ++ []) (cO g x nw im te tr gu ab be (tb + 1) tn tf ++ []) (-2)) 0 0 (dm (cO g x nw im te tr gu ab be tb tn tf ++ [])) := by
  refine met_start (by decide) (Nat.le_of_ble_eq_true rfl) ?_
  intro pp ee ss mm bl mt cd hC hpre ls hl
  obtain ⟨⟨hx, hb, hml, hown, hts⟩, hr, hlk, hnm⟩ := id hC
  have hl : lv_has ls 1 [(0, .ref (x 0))] := hl
  obtain ⟨hP, hK, hD⟩ := hpre
  have hS : va_S (dm (cO g x nw im te tr gu ab be tb tn tf ++ [])) ss.heap ss.heap [] := va_S.rf
  have hD := vD_self hD
  refine lv_aload_n hx hb dX8_bad_0 rfl (lv_at hl 0 rfl) ?_
  refine lv_dup hx hb dX8_bad_1 rfl ?_
  refine kget hC.1 hK (kP_app.mp hP).1 0 rfl rfl in_8 7 (by decide) (gw_in m_289 rfl) rfl dX8_bad_2 ?_
  refine lv_iconst (v := 1) hx hb dX8_bad_5 rfl ?_
  refine lv_iadd hx hb dX8_bad_6 ?_
  refine kput (B' := cO g x nw im te tr gu ab be (tb + 1) tn tf) hC.1 hK hP hD hS 0 rfl rfl in_8 tyX8 tyX8_ok nmX8 7 (by decide) (gw_in m_289 rfl) rfl (ty := .int) (by decide +kernel) rfl rfl (Nat.le_of_ble_eq_true rfl) (fun _ h => h) cO_adr dX8_bad_7 (fun H locs hP hD hS => ?_)
  refine lv_bipush (v := -2) hx hb dX8_bad_10 rfl ?_
  exact ret_rwi hx hb hr hlk (by rfl) (hP) hS dX8_bad_12
set_option maxHeartbeats 4000000 in
set_option maxRecDepth 100000 in
theorem kX8_badBelow (l : Launch) (g : gG) (x : Nat → Nat) (nw im te tr gu : Nat) (ab be : Int64) (tb tn tf : Int32)  : Met l yX8_badBelow (.code yX8_badBelow cX8_badBelow 1 (some .int) :: gw) (rmN 0) (va_Pc [.ref (x 0)] (rwPre g (cO g x nw im te tr gu ab be tb tn tf ++ []))) (rwQi g (cO g x nw im te tr gu ab be tb tn tf ++ []) (cO g x nw im te tr gu ab be (tb + 1) tn tf ++ []) (-10)) 0 0 (dm (cO g x nw im te tr gu ab be tb tn tf ++ [])) := by
  refine met_start (by decide) (Nat.le_of_ble_eq_true rfl) ?_
  intro pp ee ss mm bl mt cd hC hpre ls hl
  obtain ⟨⟨hx, hb, hml, hown, hts⟩, hr, hlk, hnm⟩ := id hC
  have hl : lv_has ls 1 [(0, .ref (x 0))] := hl
  obtain ⟨hP, hK, hD⟩ := hpre
  have hS : va_S (dm (cO g x nw im te tr gu ab be tb tn tf ++ [])) ss.heap ss.heap [] := va_S.rf
  have hD := vD_self hD
  refine lv_aload_n hx hb dX8_badBelow_0 rfl (lv_at hl 0 rfl) ?_
  refine lv_dup hx hb dX8_badBelow_1 rfl ?_
  refine kget hC.1 hK (kP_app.mp hP).1 0 rfl rfl in_8 7 (by decide) (gw_in m_289 rfl) rfl dX8_badBelow_2 ?_
  refine lv_iconst (v := 1) hx hb dX8_badBelow_5 rfl ?_
  refine lv_iadd hx hb dX8_badBelow_6 ?_
  refine kput (B' := cO g x nw im te tr gu ab be (tb + 1) tn tf) hC.1 hK hP hD hS 0 rfl rfl in_8 tyX8 tyX8_ok nmX8 7 (by decide) (gw_in m_289 rfl) rfl (ty := .int) (by decide +kernel) rfl rfl (Nat.le_of_ble_eq_true rfl) (fun _ h => h) cO_adr dX8_badBelow_7 (fun H locs hP hD hS => ?_)
  refine lv_bipush (v := -10) hx hb dX8_badBelow_10 rfl ?_
  exact ret_rwi hx hb hr hlk (by rfl) (hP) hS dX8_badBelow_12
set_option maxHeartbeats 4000000 in
set_option maxRecDepth 100000 in
theorem kX8_no (l : Launch) (g : gG) (x : Nat → Nat) (nw im te tr gu : Nat) (ab be : Int64) (tb tn tf : Int32)  : Met l yX8_no (.code yX8_no cX8_no 1 (some .int) :: gw) (rmN 0) (va_Pc [.ref (x 0)] (rwPre g (cO g x nw im te tr gu ab be tb tn tf ++ []))) (rwQi g (cO g x nw im te tr gu ab be tb tn tf ++ []) (cO g x nw im te tr gu ab be tb (tn + 1) tf ++ []) (-3)) 0 0 (dm (cO g x nw im te tr gu ab be tb tn tf ++ [])) := by
  refine met_start (by decide) (Nat.le_of_ble_eq_true rfl) ?_
  intro pp ee ss mm bl mt cd hC hpre ls hl
  obtain ⟨⟨hx, hb, hml, hown, hts⟩, hr, hlk, hnm⟩ := id hC
  have hl : lv_has ls 1 [(0, .ref (x 0))] := hl
  obtain ⟨hP, hK, hD⟩ := hpre
  have hS : va_S (dm (cO g x nw im te tr gu ab be tb tn tf ++ [])) ss.heap ss.heap [] := va_S.rf
  have hD := vD_self hD
  refine lv_aload_n hx hb dX8_no_0 rfl (lv_at hl 0 rfl) ?_
  refine lv_dup hx hb dX8_no_1 rfl ?_
  refine kget hC.1 hK (kP_app.mp hP).1 0 rfl rfl in_8 8 (by decide) (gw_in m_290 rfl) rfl dX8_no_2 ?_
  refine lv_iconst (v := 1) hx hb dX8_no_5 rfl ?_
  refine lv_iadd hx hb dX8_no_6 ?_
  refine kput (B' := cO g x nw im te tr gu ab be tb (tn + 1) tf) hC.1 hK hP hD hS 0 rfl rfl in_8 tyX8 tyX8_ok nmX8 8 (by decide) (gw_in m_290 rfl) rfl (ty := .int) (by decide +kernel) rfl rfl (Nat.le_of_ble_eq_true rfl) (fun _ h => h) cO_adr dX8_no_7 (fun H locs hP hD hS => ?_)
  refine lv_bipush (v := -3) hx hb dX8_no_10 rfl ?_
  exact ret_rwi hx hb hr hlk (by rfl) (hP) hS dX8_no_12
set_option maxHeartbeats 4000000 in
set_option maxRecDepth 100000 in
theorem kX8_full (l : Launch) (g : gG) (x : Nat → Nat) (nw im te tr gu : Nat) (ab be : Int64) (tb tn tf : Int32)  : Met l yX8_full (.code yX8_full cX8_full 1 (some .int) :: gw) (rmN 0) (va_Pc [.ref (x 0)] (rwPre g (cO g x nw im te tr gu ab be tb tn tf ++ []))) (rwQi g (cO g x nw im te tr gu ab be tb tn tf ++ []) (cO g x nw im te tr gu ab be tb tn (tf + 1) ++ []) (-4)) 0 0 (dm (cO g x nw im te tr gu ab be tb tn tf ++ [])) := by
  refine met_start (by decide) (Nat.le_of_ble_eq_true rfl) ?_
  intro pp ee ss mm bl mt cd hC hpre ls hl
  obtain ⟨⟨hx, hb, hml, hown, hts⟩, hr, hlk, hnm⟩ := id hC
  have hl : lv_has ls 1 [(0, .ref (x 0))] := hl
  obtain ⟨hP, hK, hD⟩ := hpre
  have hS : va_S (dm (cO g x nw im te tr gu ab be tb tn tf ++ [])) ss.heap ss.heap [] := va_S.rf
  have hD := vD_self hD
  refine lv_aload_n hx hb dX8_full_0 rfl (lv_at hl 0 rfl) ?_
  refine lv_dup hx hb dX8_full_1 rfl ?_
  refine kget hC.1 hK (kP_app.mp hP).1 0 rfl rfl in_8 9 (by decide) (gw_in m_291 rfl) rfl dX8_full_2 ?_
  refine lv_iconst (v := 1) hx hb dX8_full_5 rfl ?_
  refine lv_iadd hx hb dX8_full_6 ?_
  refine kput (B' := cO g x nw im te tr gu ab be tb tn (tf + 1)) hC.1 hK hP hD hS 0 rfl rfl in_8 tyX8 tyX8_ok nmX8 9 (by decide) (gw_in m_291 rfl) rfl (ty := .int) (by decide +kernel) rfl rfl (Nat.le_of_ble_eq_true rfl) (fun _ h => h) cO_adr dX8_full_7 (fun H locs hP hD hS => ?_)
  refine lv_bipush (v := -4) hx hb dX8_full_10 rfl ?_
  exact ret_rwi hx hb hr hlk (by rfl) (hP) hS dX8_full_12
set_option maxHeartbeats 4000000 in
set_option maxRecDepth 100000 in
theorem kX8_areTwoNuts (l : Launch) (g : gG) (x : Nat → Nat) (im te tr gu : Nat) (ab be : Int64) (tb tn tf : Int32) (a ay : Nat → Nat) (ps s1 s2 s3 : Nat) (r : Nat → Int32) (i j : Int32) : Met l yX8_areTwoNuts (.code yX8_areTwoNuts cX8_areTwoNuts 3 (some .boolean) :: gw) (rmN 1) (va_Pc [.ref (x 0), .int (i), .int (j)] (roPre g (cO g x (a 0) im te tr gu ab be tb tn tf ++ (gW g a (ay 0) ps s1 s2 s3 ++ (yW g ay r ++ []))))) (vp_Si (fun v => v = (b2i (yNut r i && yNut r j && decide (¬ i = j))))) 0 0 (fun _ => False) := by
  refine met_start (by decide) (Nat.le_of_ble_eq_true rfl) ?_
  intro pp ee ss mm bl mt cd hC hpre ls hl
  obtain ⟨⟨hx, hb, hml, hown, hts⟩, hr, hlk, hnm⟩ := id hC
  have hl : lv_has ls 3 [(0, .ref (x 0)), (1, .int (i)), (2, .int (j))] := hl
  obtain ⟨hP, hK⟩ := hpre
  refine lv_aload_n hx hb dX8_areTwoNuts_0 rfl (lv_at hl 0 rfl) ?_
  refine kget hC.1 hK (kP_app.mp hP).1 0 rfl rfl in_8 0 (by decide) (gw_in m_282 rfl) rfl dX8_areTwoNuts_1 ?_
  refine kget hC.1 hK (kP_app.mp (kP_app.mp hP).2).1 0 rfl rfl in_1 0 (by decide) (gw_in m_180 rfl) rfl dX8_areTwoNuts_4 ?_
  refine lv_iload_n hx hb dX8_areTwoNuts_7 rfl (lv_at hl 1 rfl) ?_
  refine ro_i (run_V (As := [.int (i)]) (rest := []) hC.1 ckX7_isNut (kX7_isNut l g ay r i) (gw_in m_573 rfl) (fb_ro _ _ _) (va_recv hK.1 (kP_app.mp (kP_app.mp (kP_app.mp hP).2).2).1 (q0 := 0) rfl rfl) (fun U hU hW => ⟨by rw [hU]; exact (kP_app.mp (kP_app.mp (kP_app.mp hP).2).2).1, kK_warm hW hK⟩) ⟨rfl, rfl, Nat.le_of_ble_eq_true rfl, Nat.le_of_ble_eq_true rfl⟩ rfl hl.1 rfl (Nat.le_of_ble_eq_true rfl) dX8_areTwoNuts_8 ⟨Nat.le_of_ble_eq_true rfl, Nat.le_of_ble_eq_true rfl⟩) ?_
  refine lv_if_eq (tgt := 37) hx hb dX8_areTwoNuts_11 (by decide) (fun c1 => ?_) (fun c1 => ?_)
  · skip
    have c1 := b2i_0 c1
    refine lv_iconst (v := 0) hx hb dX8_areTwoNuts_37 rfl ?_
    exact ret_roz hx hb hr hlk rfl (by simp [b2i, c1]) dX8_areTwoNuts_38
  · skip
    have c1 := b2i_1 c1
    refine lv_aload_n hx hb dX8_areTwoNuts_14 rfl (lv_at hl 0 rfl) ?_
    refine kget hC.1 hK (kP_app.mp hP).1 0 rfl rfl in_8 0 (by decide) (gw_in m_282 rfl) rfl dX8_areTwoNuts_15 ?_
    refine kget hC.1 hK (kP_app.mp (kP_app.mp hP).2).1 0 rfl rfl in_1 0 (by decide) (gw_in m_180 rfl) rfl dX8_areTwoNuts_18 ?_
    refine lv_iload_n hx hb dX8_areTwoNuts_21 rfl (lv_at hl 2 rfl) ?_
    refine ro_i (run_V (As := [.int (j)]) (rest := []) hC.1 ckX7_isNut (kX7_isNut l g ay r j) (gw_in m_573 rfl) (fb_ro _ _ _) (va_recv hK.1 (kP_app.mp (kP_app.mp (kP_app.mp hP).2).2).1 (q0 := 0) rfl rfl) (fun U hU hW => ⟨by rw [hU]; exact (kP_app.mp (kP_app.mp (kP_app.mp hP).2).2).1, kK_warm hW hK⟩) ⟨rfl, rfl, Nat.le_of_ble_eq_true rfl, Nat.le_of_ble_eq_true rfl⟩ rfl hl.1 rfl (Nat.le_of_ble_eq_true rfl) dX8_areTwoNuts_22 ⟨Nat.le_of_ble_eq_true rfl, Nat.le_of_ble_eq_true rfl⟩) ?_
    refine lv_if_eq (tgt := 37) hx hb dX8_areTwoNuts_25 (by decide) (fun c2 => ?_) (fun c2 => ?_)
    · skip
      have c2 := b2i_0 c2
      refine lv_iconst (v := 0) hx hb dX8_areTwoNuts_37 rfl ?_
      exact ret_roz hx hb hr hlk rfl (by simp [b2i, c1, c2]) dX8_areTwoNuts_38
    · skip
      have c2 := b2i_1 c2
      refine lv_iload_n hx hb dX8_areTwoNuts_28 rfl (lv_at hl 1 rfl) ?_
      refine lv_iload_n hx hb dX8_areTwoNuts_29 rfl (lv_at hl 2 rfl) ?_
      refine lv_icmp_eq (tgt := 37) hx hb dX8_areTwoNuts_30 (by decide) (fun c3 => ?_) (fun c3 => ?_)
      · skip
        refine lv_iconst (v := 0) hx hb dX8_areTwoNuts_37 rfl ?_
        exact ret_roz hx hb hr hlk rfl (by simp [b2i, c1, c2, c3]) dX8_areTwoNuts_38
      · skip
        refine lv_iconst (v := 1) hx hb dX8_areTwoNuts_33 rfl ?_
        refine lv_goto (tgt := 38) hx hb dX8_areTwoNuts_34 (by decide) ?_
        exact ret_roz hx hb hr hlk rfl (by simp [b2i, c1, c2, c3]) dX8_areTwoNuts_38
set_option maxHeartbeats 4000000 in
set_option maxRecDepth 100000 in
theorem kX8_yard (l : Launch) (g : gG) (x : Nat → Nat) (im te tr gu : Nat) (ab be : Int64) (tb tn tf : Int32) (a ay ap b1 b2 b3 : Nat → Nat) (r : Nat → Int32) (N : Nat) (f : Nat → Int32) (N1 N2 N3 : Nat) (l1 l2 l3 : Int32) (f1 f2 f3 : Nat → Int32) (t : Int32) : Met l yX8_yard (.code yX8_yard cX8_yard 3 (some .int) :: gw) (rmN 2) (va_Pc [.ref (x 0), .int (t)] (rwPre g (cO g x (a 0) im te tr gu ab be tb tn tf ++ (gW g a (ay 0) (ap 0) (b1 0) (b2 0) (b3 0) ++ (yW g ay r ++ (pW g ap N f ++ (rW g b1 N1 l1 f1 ++ (rW g b2 N2 l2 f2 ++ (rW g b3 N3 l3 f3 ++ []))))))))) (rwQi g (cO g x (a 0) im te tr gu ab be tb tn tf ++ (gW g a (ay 0) (ap 0) (b1 0) (b2 0) (b3 0) ++ (yW g ay r ++ (pW g ap N f ++ (rW g b1 N1 l1 f1 ++ (rW g b2 N2 l2 f2 ++ (rW g b3 N3 l3 f3 ++ []))))))) (cO g x (a 0) im te tr gu ab be (if wth t 0 99 = true then tb else tb + 1) tn tf ++ (gW g a (ay 0) (ap 0) (b1 0) (b2 0) (b3 0) ++ (yW g ay (if wth t 0 99 = true then upd (upd (upd r 1 0) 2 0) 0 t else r) ++ (pW g ap (if wth t 0 99 = true then 0 else N) f ++ (rW g b1 (if wth t 0 99 = true then 0 else N1) l1 f1 ++ (rW g b2 (if wth t 0 99 = true then 0 else N2) l2 f2 ++ (rW g b3 (if wth t 0 99 = true then 0 else N3) l3 f3 ++ []))))))) (if wth t 0 99 = true then r 2 else -2)) 0 0 (dm (cO g x (a 0) im te tr gu ab be tb tn tf ++ (gW g a (ay 0) (ap 0) (b1 0) (b2 0) (b3 0) ++ (yW g ay r ++ (pW g ap N f ++ (rW g b1 N1 l1 f1 ++ (rW g b2 N2 l2 f2 ++ (rW g b3 N3 l3 f3 ++ [])))))))) := by
  refine met_start (by decide) (Nat.le_of_ble_eq_true rfl) ?_
  intro pp ee ss mm bl mt cd hC hpre ls hl
  obtain ⟨⟨hx, hb, hml, hown, hts⟩, hr, hlk, hnm⟩ := id hC
  have hl : lv_has ls 3 [(0, .ref (x 0)), (1, .int (t))] := hl
  obtain ⟨hP, hK, hD⟩ := hpre
  have hS : va_S (dm (cO g x (a 0) im te tr gu ab be tb tn tf ++ (gW g a (ay 0) (ap 0) (b1 0) (b2 0) (b3 0) ++ (yW g ay r ++ (pW g ap N f ++ (rW g b1 N1 l1 f1 ++ (rW g b2 N2 l2 f2 ++ (rW g b3 N3 l3 f3 ++ [])))))))) ss.heap ss.heap [] := va_S.rf
  have hD := vD_self hD
  refine lv_iload_n hx hb dX8_yard_0 rfl (lv_at hl 1 rfl) ?_
  refine lv_iconst (v := 0) hx hb dX8_yard_1 rfl ?_
  refine lv_bipush (v := 99) hx hb dX8_yard_2 rfl ?_
  refine ro_i (run_S (As := [.int (t), .int (0), .int (99)]) (rest := []) hC.1 ckX8_within (kX8_within l t 0 99) (gw_in m_317 rfl) (fb_nil _) (fun _ _ _ => trivial) ⟨rfl, rfl, Nat.le_of_ble_eq_true rfl, Nat.le_of_ble_eq_true rfl⟩ rfl hl.1 rfl (Nat.le_of_ble_eq_true rfl) dX8_yard_4 ⟨Nat.le_of_ble_eq_true rfl, Nat.le_of_ble_eq_true rfl⟩) ?_
  refine lv_if_ne (tgt := 15) hx hb dX8_yard_7 (by decide) (fun c1 => ?_) (fun c1 => ?_)
  · skip
    have c1 := b2i_1 c1
    refine lv_aload_n hx hb dX8_yard_15 rfl (lv_at hl 0 rfl) ?_
    refine kget hC.1 hK (kP_app.mp hP).1 0 rfl rfl in_8 0 (by decide) (gw_in m_282 rfl) rfl dX8_yard_16 ?_
    refine kget hC.1 hK (kP_app.mp (kP_app.mp hP).2).1 0 rfl rfl in_1 0 (by decide) (gw_in m_180 rfl) rfl dX8_yard_19 ?_
    refine kget hC.1 hK (kP_app.mp (kP_app.mp (kP_app.mp hP).2).2).1 0 rfl rfl in_7 1 (by decide) (gw_in m_103 rfl) rfl dX8_yard_22 ?_
    refine lv_istore_n (lv' := [(2, .int (r 2)), (0, .ref (x 0)), (1, .int (t))]) hx hb dX8_yard_25 rfl hl (by decide) rfl (fun ls hl => ?_)
    refine lv_aload_n hx hb dX8_yard_26 rfl (lv_at hl 1 rfl) ?_
    refine kget hC.1 hK (kP_app.mp hP).1 0 rfl rfl in_8 0 (by decide) (gw_in m_282 rfl) rfl dX8_yard_27 ?_
    refine lv_iload_n hx hb dX8_yard_30 rfl (lv_at hl 2 rfl) ?_
    have hP : kP g (gW g a (ay 0) (ap 0) (b1 0) (b2 0) (b3 0) ++ (yW g ay r ++ (pW g ap N f ++ (rW g b1 N1 l1 f1 ++ (rW g b2 N2 l2 f2 ++ (rW g b3 N3 l3 f3 ++ (cO g x (a 0) im te tr gu ab be tb tn tf ++ []))))))) _ := kP_perm ((((((pm_swap _ _ _).trans (pmA _ (pm_swap _ _ _))).trans (pmA _ (pmA _ (pm_swap _ _ _)))).trans (pmA _ (pmA _ (pmA _ (pm_swap _ _ _))))).trans (pmA _ (pmA _ (pmA _ (pmA _ (pm_swap _ _ _)))))).trans (pmA _ (pmA _ (pmA _ (pmA _ (pmA _ (pm_swap _ _ _))))))) hP
    have hD : va_D _ (gW g a (ay 0) (ap 0) (b1 0) (b2 0) (b3 0) ++ (yW g ay r ++ (pW g ap N f ++ (rW g b1 N1 l1 f1 ++ (rW g b2 N2 l2 f2 ++ (rW g b3 N3 l3 f3 ++ (cO g x (a 0) im te tr gu ab be tb tn tf ++ []))))))) := vD_perm ((((((pm_swap _ _ _).trans (pmA _ (pm_swap _ _ _))).trans (pmA _ (pmA _ (pm_swap _ _ _)))).trans (pmA _ (pmA _ (pmA _ (pm_swap _ _ _))))).trans (pmA _ (pmA _ (pmA _ (pmA _ (pm_swap _ _ _)))))).trans (pmA _ (pmA _ (pmA _ (pmA _ (pmA _ (pm_swap _ _ _))))))) hD
    refine rw_v (run_V (As := [.int (t)]) (rest := []) hC.1 ckX1_restart (kX1_restart l g a ay ap b1 b2 b3 r N f N1 N2 N3 l1 l2 l3 f1 f2 f3 t) (gw_in m_324 rfl) (fb_rw _ _ _) (va_recv hK.1 (kP_app.mp hP).1 (q0 := 0) rfl rfl) (fun U hU hW => ⟨by rw [hU]; exact (kP_app.mpr ⟨(kP_app.mp hP).1, (kP_app.mpr ⟨(kP_app.mp (kP_app.mp hP).2).1, (kP_app.mpr ⟨(kP_app.mp (kP_app.mp (kP_app.mp hP).2).2).1, (kP_app.mpr ⟨(kP_app.mp (kP_app.mp (kP_app.mp (kP_app.mp hP).2).2).2).1, (kP_app.mpr ⟨(kP_app.mp (kP_app.mp (kP_app.mp (kP_app.mp (kP_app.mp hP).2).2).2).2).1, (kP_app.mpr ⟨(kP_app.mp (kP_app.mp (kP_app.mp (kP_app.mp (kP_app.mp (kP_app.mp hP).2).2).2).2).2).1, kP_nil⟩)⟩)⟩)⟩)⟩)⟩), kK_warm hW hK, vD_sub (sbA _ (sbA _ (sbA _ (sbA _ (sbA _ (sbA _ (sb0 _))))))) hD⟩) ⟨rfl, rfl, Nat.le_of_ble_eq_true rfl, Nat.le_of_ble_eq_true rfl⟩ rfl hl.1 rfl (Nat.le_of_ble_eq_true rfl) dX8_yard_31 ⟨Nat.le_of_ble_eq_true rfl, Nat.le_of_ble_eq_true rfl⟩) (adr_app rfl (adr_app yW_adr (adr_app pW_adr (adr_app rW_adr (adr_app rW_adr (adr_app rW_adr rfl)))))) (asc6 _ _ _ _ _ _ _) (ww' := gW g a (ay 0) (ap 0) (b1 0) (b2 0) (b3 0) ++ (yW g ay (upd (upd (upd r 1 0) 2 0) 0 t) ++ (pW g ap 0 f ++ (rW g b1 0 l1 f1 ++ (rW g b2 0 l2 f2 ++ (rW g b3 0 l3 f3 ++ (cO g x (a 0) im te tr gu ab be tb tn tf ++ []))))))) (asc6 _ _ _ _ _ _ _) hP hD hS (fun H locs hP hD hS => ?_)
    refine lv_iload_n hx hb dX8_yard_34 rfl (lv_at hl 0 rfl) ?_
    have hP : kP g (cO g x (a 0) im te tr gu ab be tb tn tf ++ (gW g a (ay 0) (ap 0) (b1 0) (b2 0) (b3 0) ++ (yW g ay (upd (upd (upd r 1 0) 2 0) 0 t) ++ (pW g ap 0 f ++ (rW g b1 0 l1 f1 ++ (rW g b2 0 l2 f2 ++ (rW g b3 0 l3 f3 ++ []))))))) _ := kP_perm ((((((pmA _ (pmA _ (pmA _ (pmA _ (pmA _ (pm_swap _ _ _)))))).trans (pmA _ (pmA _ (pmA _ (pmA _ (pm_swap _ _ _)))))).trans (pmA _ (pmA _ (pmA _ (pm_swap _ _ _))))).trans (pmA _ (pmA _ (pm_swap _ _ _)))).trans (pmA _ (pm_swap _ _ _))).trans (pm_swap _ _ _)) hP
    have hD : va_D _ (cO g x (a 0) im te tr gu ab be tb tn tf ++ (gW g a (ay 0) (ap 0) (b1 0) (b2 0) (b3 0) ++ (yW g ay (upd (upd (upd r 1 0) 2 0) 0 t) ++ (pW g ap 0 f ++ (rW g b1 0 l1 f1 ++ (rW g b2 0 l2 f2 ++ (rW g b3 0 l3 f3 ++ []))))))) := vD_perm ((((((pmA _ (pmA _ (pmA _ (pmA _ (pmA _ (pm_swap _ _ _)))))).trans (pmA _ (pmA _ (pmA _ (pmA _ (pm_swap _ _ _)))))).trans (pmA _ (pmA _ (pmA _ (pm_swap _ _ _))))).trans (pmA _ (pmA _ (pm_swap _ _ _)))).trans (pmA _ (pm_swap _ _ _))).trans (pm_swap _ _ _)) hD
    exact ret_rwi hx hb hr hlk (by simp [c1]) (kP_eq (by simp [c1]) hP) hS dX8_yard_35
  · skip
    have c1 := b2i_0 c1
    refine lv_aload_n hx hb dX8_yard_10 rfl (lv_at hl 0 rfl) ?_
    refine rw_i (run_V (As := []) (rest := []) hC.1 ckX8_bad (kX8_bad l g x (a 0) im te tr gu ab be tb tn tf) (gw_in m_320 rfl) (fb_rw _ _ _) (va_recv hK.1 (kP_app.mp hP).1 (q0 := 0) rfl rfl) (fun U hU hW => ⟨by rw [hU]; exact (kP_app.mpr ⟨(kP_app.mp hP).1, kP_nil⟩), kK_warm hW hK, vD_sub (sbA _ (sb0 _)) hD⟩) ⟨rfl, rfl, Nat.le_of_ble_eq_true rfl, Nat.le_of_ble_eq_true rfl⟩ rfl hl.1 rfl (Nat.le_of_ble_eq_true rfl) dX8_yard_11 ⟨Nat.le_of_ble_eq_true rfl, Nat.le_of_ble_eq_true rfl⟩) (adr_app cO_adr rfl) (asc1 _ _) (ww' := cO g x (a 0) im te tr gu ab be (tb + 1) tn tf ++ (gW g a (ay 0) (ap 0) (b1 0) (b2 0) (b3 0) ++ (yW g ay r ++ (pW g ap N f ++ (rW g b1 N1 l1 f1 ++ (rW g b2 N2 l2 f2 ++ (rW g b3 N3 l3 f3 ++ []))))))) (asc1 _ _) hP hD hS (fun H locs hP hD hS => ?_)
    exact ret_rwi hx hb hr hlk (by simp [c1]) (kP_eq (by simp [c1]) hP) hS dX8_yard_14
set_option maxHeartbeats 4000000 in
set_option maxRecDepth 100000 in
theorem kX8_player (l : Launch) (g : gG) (x : Nat → Nat) (im te tr gu : Nat) (ab be : Int64) (tb tn tf : Int32) (a ay ap : Nat → Nat) (s1 s2 s3 : Nat) (r : Nat → Int32) (N : Nat) (f : Nat → Int32) (k q : Int32) (hw : Wf r) : Met l yX8_player (.code yX8_player cX8_player 3 (some .int) :: gw) (rmN 2) (va_Pc [.ref (x 0), .int (k), .int (q)] (rwPre g (cO g x (a 0) im te tr gu ab be tb tn tf ++ (gW g a (ay 0) (ap 0) s1 s2 s3 ++ (yW g ay r ++ (pW g ap N f ++ [])))))) (rwQi g (cO g x (a 0) im te tr gu ab be tb tn tf ++ (gW g a (ay 0) (ap 0) s1 s2 s3 ++ (yW g ay r ++ (pW g ap N f ++ [])))) (cO g x (a 0) im te tr gu ab be (if (wth k 0 5 && wth q 1 9) = true then tb else tb + 1) tn (if (wth k 0 5 && wth q 1 9) = true then (if r 1 < 3 then tf else tf + 1) else tf) ++ (gW g a (ay 0) (ap 0) s1 s2 s3 ++ (yW g ay (if (wth k 0 5 && wth q 1 9) = true then (if r 1 < 3 then upd (upd (upd r (3 + cl (r 1)) k) (6 + cl (r 1)) q) 1 (r 1 + 1) else r) else r) ++ (pW g ap (if (wth k 0 5 && wth q 1 9) = true then (if r 1 < 3 then 0 else N) else N) f ++ [])))) (if (wth k 0 5 && wth q 1 9) = true then (if r 1 < 3 then r 1 else -4) else -2)) 0 0 (dm (cO g x (a 0) im te tr gu ab be tb tn tf ++ (gW g a (ay 0) (ap 0) s1 s2 s3 ++ (yW g ay r ++ (pW g ap N f ++ []))))) := by
  refine met_start (by decide) (Nat.le_of_ble_eq_true rfl) ?_
  intro pp ee ss mm bl mt cd hC hpre ls hl
  obtain ⟨⟨hx, hb, hml, hown, hts⟩, hr, hlk, hnm⟩ := id hC
  have hl : lv_has ls 3 [(0, .ref (x 0)), (1, .int (k)), (2, .int (q))] := hl
  obtain ⟨hP, hK, hD⟩ := hpre
  have hS : va_S (dm (cO g x (a 0) im te tr gu ab be tb tn tf ++ (gW g a (ay 0) (ap 0) s1 s2 s3 ++ (yW g ay r ++ (pW g ap N f ++ []))))) ss.heap ss.heap [] := va_S.rf
  have hD := vD_self hD
  refine lv_iload_n hx hb dX8_player_0 rfl (lv_at hl 1 rfl) ?_
  refine ro_i (run_S (As := [.int (k)]) (rest := []) hC.1 ckX8_isKind (kX8_isKind l k) (gw_in m_340 rfl) (fb_nil _) (fun _ _ _ => trivial) ⟨rfl, rfl, Nat.le_of_ble_eq_true rfl, Nat.le_of_ble_eq_true rfl⟩ rfl hl.1 rfl (Nat.le_of_ble_eq_true rfl) dX8_player_1 ⟨Nat.le_of_ble_eq_true rfl, Nat.le_of_ble_eq_true rfl⟩) ?_
  refine lv_if_eq (tgt := 17) hx hb dX8_player_4 (by decide) (fun c1 => ?_) (fun c1 => ?_)
  · skip
    have c1 := b2i_0 c1
    refine lv_aload_n hx hb dX8_player_17 rfl (lv_at hl 0 rfl) ?_
    refine rw_i (run_V (As := []) (rest := []) hC.1 ckX8_bad (kX8_bad l g x (a 0) im te tr gu ab be tb tn tf) (gw_in m_320 rfl) (fb_rw _ _ _) (va_recv hK.1 (kP_app.mp hP).1 (q0 := 0) rfl rfl) (fun U hU hW => ⟨by rw [hU]; exact (kP_app.mpr ⟨(kP_app.mp hP).1, kP_nil⟩), kK_warm hW hK, vD_sub (sbA _ (sb0 _)) hD⟩) ⟨rfl, rfl, Nat.le_of_ble_eq_true rfl, Nat.le_of_ble_eq_true rfl⟩ rfl hl.1 rfl (Nat.le_of_ble_eq_true rfl) dX8_player_18 ⟨Nat.le_of_ble_eq_true rfl, Nat.le_of_ble_eq_true rfl⟩) (adr_app cO_adr rfl) (asc1 _ _) (ww' := cO g x (a 0) im te tr gu ab be (tb + 1) tn tf ++ (gW g a (ay 0) (ap 0) s1 s2 s3 ++ (yW g ay r ++ (pW g ap N f ++ [])))) (asc1 _ _) hP hD hS (fun H locs hP hD hS => ?_)
    exact ret_rwi hx hb hr hlk (by simp [c1]) (kP_eq (by simp [c1]) hP) hS dX8_player_21
  · skip
    have c1 := b2i_1 c1
    refine lv_iload_n hx hb dX8_player_7 rfl (lv_at hl 2 rfl) ?_
    refine lv_iconst (v := 1) hx hb dX8_player_8 rfl ?_
    refine lv_bipush (v := 9) hx hb dX8_player_9 rfl ?_
    refine ro_i (run_S (As := [.int (q), .int (1), .int (9)]) (rest := []) hC.1 ckX8_within (kX8_within l q 1 9) (gw_in m_317 rfl) (fb_nil _) (fun _ _ _ => trivial) ⟨rfl, rfl, Nat.le_of_ble_eq_true rfl, Nat.le_of_ble_eq_true rfl⟩ rfl hl.1 rfl (Nat.le_of_ble_eq_true rfl) dX8_player_11 ⟨Nat.le_of_ble_eq_true rfl, Nat.le_of_ble_eq_true rfl⟩) ?_
    refine lv_if_ne (tgt := 22) hx hb dX8_player_14 (by decide) (fun c2 => ?_) (fun c2 => ?_)
    · skip
      have c2 := b2i_1 c2
      refine lv_aload_n hx hb dX8_player_22 rfl (lv_at hl 0 rfl) ?_
      refine kget hC.1 hK (kP_app.mp hP).1 0 rfl rfl in_8 0 (by decide) (gw_in m_282 rfl) rfl dX8_player_23 ?_
      refine kget hC.1 hK (kP_app.mp (kP_app.mp hP).2).1 0 rfl rfl in_1 0 (by decide) (gw_in m_180 rfl) rfl dX8_player_26 ?_
      refine kget hC.1 hK (kP_app.mp (kP_app.mp (kP_app.mp hP).2).2).1 0 rfl rfl in_7 0 (by decide) (gw_in m_100 rfl) rfl dX8_player_29 ?_
      refine lv_iconst (v := 3) hx hb dX8_player_32 rfl ?_
      refine lv_icmp_lt (tgt := 41) hx hb dX8_player_33 (by decide) (fun c3 => ?_) (fun c3 => ?_)
      · skip
        have c3' := Int32.not_le.mpr c3
        refine lv_aload_n hx hb dX8_player_41 rfl (lv_at hl 0 rfl) ?_
        refine kget hC.1 hK (kP_app.mp hP).1 0 rfl rfl in_8 0 (by decide) (gw_in m_282 rfl) rfl dX8_player_42 ?_
        refine kget hC.1 hK (kP_app.mp (kP_app.mp hP).2).1 0 rfl rfl in_1 1 (by decide) (gw_in m_183 rfl) rfl dX8_player_45 ?_
        have hP : kP g (pW g ap N f ++ (cO g x (a 0) im te tr gu ab be tb tn tf ++ (gW g a (ay 0) (ap 0) s1 s2 s3 ++ (yW g ay r ++ [])))) _ := kP_perm (((pmA _ (pmA _ (pm_swap _ _ _))).trans (pmA _ (pm_swap _ _ _))).trans (pm_swap _ _ _)) hP
        have hD : va_D _ (pW g ap N f ++ (cO g x (a 0) im te tr gu ab be tb tn tf ++ (gW g a (ay 0) (ap 0) s1 s2 s3 ++ (yW g ay r ++ [])))) := vD_perm (((pmA _ (pmA _ (pm_swap _ _ _))).trans (pmA _ (pm_swap _ _ _))).trans (pm_swap _ _ _)) hD
        refine rw_v (run_V (As := []) (rest := []) hC.1 ckX3_empty (kX3_empty l g ap N f) (gw_in m_347 rfl) (fb_rw _ _ _) (va_recv hK.1 (kP_app.mp hP).1 (q0 := 0) rfl rfl) (fun U hU hW => ⟨by rw [hU]; exact (kP_app.mpr ⟨(kP_app.mp hP).1, kP_nil⟩), kK_warm hW hK, vD_sub (sbA _ (sb0 _)) hD⟩) ⟨rfl, rfl, Nat.le_of_ble_eq_true rfl, Nat.le_of_ble_eq_true rfl⟩ rfl hl.1 rfl (Nat.le_of_ble_eq_true rfl) dX8_player_48 ⟨Nat.le_of_ble_eq_true rfl, Nat.le_of_ble_eq_true rfl⟩) (adr_app pW_adr rfl) (asc1 _ _) (ww' := pW g ap 0 f ++ (cO g x (a 0) im te tr gu ab be tb tn tf ++ (gW g a (ay 0) (ap 0) s1 s2 s3 ++ (yW g ay r ++ [])))) (asc1 _ _) hP hD hS (fun H locs hP hD hS => ?_)
        refine lv_aload_n hx hb dX8_player_51 rfl (lv_at hl 0 rfl) ?_
        refine kget hC.1 hK (kP_app.mp (kP_app.mp hP).2).1 0 rfl rfl in_8 0 (by decide) (gw_in m_282 rfl) rfl dX8_player_52 ?_
        refine kget hC.1 hK (kP_app.mp (kP_app.mp (kP_app.mp hP).2).2).1 0 rfl rfl in_1 0 (by decide) (gw_in m_180 rfl) rfl dX8_player_55 ?_
        refine lv_iload_n hx hb dX8_player_58 rfl (lv_at hl 1 rfl) ?_
        refine lv_iload_n hx hb dX8_player_59 rfl (lv_at hl 2 rfl) ?_
        have hP : kP g (yW g ay r ++ (pW g ap 0 f ++ (cO g x (a 0) im te tr gu ab be tb tn tf ++ (gW g a (ay 0) (ap 0) s1 s2 s3 ++ [])))) _ := kP_perm (((pmA _ (pmA _ (pm_swap _ _ _))).trans (pmA _ (pm_swap _ _ _))).trans (pm_swap _ _ _)) hP
        have hD : va_D _ (yW g ay r ++ (pW g ap 0 f ++ (cO g x (a 0) im te tr gu ab be tb tn tf ++ (gW g a (ay 0) (ap 0) s1 s2 s3 ++ [])))) := vD_perm (((pmA _ (pmA _ (pm_swap _ _ _))).trans (pmA _ (pm_swap _ _ _))).trans (pm_swap _ _ _)) hD
        refine rw_i (run_V (As := [.int (k), .int (q)]) (rest := []) hC.1 ckX7_addPlayer (kX7_addPlayer l g ay r k q (pl_bd hw c3)) (gw_in m_348 rfl) (fb_rw _ _ _) (va_recv hK.1 (kP_app.mp hP).1 (q0 := 0) rfl rfl) (fun U hU hW => ⟨by rw [hU]; exact (kP_app.mpr ⟨(kP_app.mp hP).1, kP_nil⟩), kK_warm hW hK, vD_sub (sbA _ (sb0 _)) hD⟩) ⟨rfl, rfl, Nat.le_of_ble_eq_true rfl, Nat.le_of_ble_eq_true rfl⟩ rfl hl.1 rfl (Nat.le_of_ble_eq_true rfl) dX8_player_60 ⟨Nat.le_of_ble_eq_true rfl, Nat.le_of_ble_eq_true rfl⟩) (adr_app yW_adr rfl) (asc1 _ _) (ww' := yW g ay (upd (upd (upd r (3 + cl (r 1)) k) (6 + cl (r 1)) q) 1 (r 1 + 1)) ++ (pW g ap 0 f ++ (cO g x (a 0) im te tr gu ab be tb tn tf ++ (gW g a (ay 0) (ap 0) s1 s2 s3 ++ [])))) (asc1 _ _) hP hD hS (fun H locs hP hD hS => ?_)
        have hP : kP g (cO g x (a 0) im te tr gu ab be tb tn tf ++ (gW g a (ay 0) (ap 0) s1 s2 s3 ++ (yW g ay (upd (upd (upd r (3 + cl (r 1)) k) (6 + cl (r 1)) q) 1 (r 1 + 1)) ++ (pW g ap 0 f ++ [])))) _ := kP_perm ((((pmA _ (pm_swap _ _ _)).trans (pm_swap _ _ _)).trans (pmA _ (pmA _ (pm_swap _ _ _)))).trans (pmA _ (pm_swap _ _ _))) hP
        have hD : va_D _ (cO g x (a 0) im te tr gu ab be tb tn tf ++ (gW g a (ay 0) (ap 0) s1 s2 s3 ++ (yW g ay (upd (upd (upd r (3 + cl (r 1)) k) (6 + cl (r 1)) q) 1 (r 1 + 1)) ++ (pW g ap 0 f ++ [])))) := vD_perm ((((pmA _ (pm_swap _ _ _)).trans (pm_swap _ _ _)).trans (pmA _ (pmA _ (pm_swap _ _ _)))).trans (pmA _ (pm_swap _ _ _))) hD
        exact ret_rwi hx hb hr hlk (by simp [c1, c2, c3, c3']) (kP_eq (by simp [c1, c2, c3, c3']) hP) hS dX8_player_63
      · skip
        have c3' := Int32.not_lt.mp c3
        refine lv_aload_n hx hb dX8_player_36 rfl (lv_at hl 0 rfl) ?_
        refine rw_i (run_V (As := []) (rest := []) hC.1 ckX8_full (kX8_full l g x (a 0) im te tr gu ab be tb tn tf) (gw_in m_343 rfl) (fb_rw _ _ _) (va_recv hK.1 (kP_app.mp hP).1 (q0 := 0) rfl rfl) (fun U hU hW => ⟨by rw [hU]; exact (kP_app.mpr ⟨(kP_app.mp hP).1, kP_nil⟩), kK_warm hW hK, vD_sub (sbA _ (sb0 _)) hD⟩) ⟨rfl, rfl, Nat.le_of_ble_eq_true rfl, Nat.le_of_ble_eq_true rfl⟩ rfl hl.1 rfl (Nat.le_of_ble_eq_true rfl) dX8_player_37 ⟨Nat.le_of_ble_eq_true rfl, Nat.le_of_ble_eq_true rfl⟩) (adr_app cO_adr rfl) (asc1 _ _) (ww' := cO g x (a 0) im te tr gu ab be tb tn (tf + 1) ++ (gW g a (ay 0) (ap 0) s1 s2 s3 ++ (yW g ay r ++ (pW g ap N f ++ [])))) (asc1 _ _) hP hD hS (fun H locs hP hD hS => ?_)
        exact ret_rwi hx hb hr hlk (by simp [c1, c2, c3, c3']) (kP_eq (by simp [c1, c2, c3, c3']) hP) hS dX8_player_40
    · skip
      have c2 := b2i_0 c2
      refine lv_aload_n hx hb dX8_player_17 rfl (lv_at hl 0 rfl) ?_
      refine rw_i (run_V (As := []) (rest := []) hC.1 ckX8_bad (kX8_bad l g x (a 0) im te tr gu ab be tb tn tf) (gw_in m_320 rfl) (fb_rw _ _ _) (va_recv hK.1 (kP_app.mp hP).1 (q0 := 0) rfl rfl) (fun U hU hW => ⟨by rw [hU]; exact (kP_app.mpr ⟨(kP_app.mp hP).1, kP_nil⟩), kK_warm hW hK, vD_sub (sbA _ (sb0 _)) hD⟩) ⟨rfl, rfl, Nat.le_of_ble_eq_true rfl, Nat.le_of_ble_eq_true rfl⟩ rfl hl.1 rfl (Nat.le_of_ble_eq_true rfl) dX8_player_18 ⟨Nat.le_of_ble_eq_true rfl, Nat.le_of_ble_eq_true rfl⟩) (adr_app cO_adr rfl) (asc1 _ _) (ww' := cO g x (a 0) im te tr gu ab be (tb + 1) tn tf ++ (gW g a (ay 0) (ap 0) s1 s2 s3 ++ (yW g ay r ++ (pW g ap N f ++ [])))) (asc1 _ _) hP hD hS (fun H locs hP hD hS => ?_)
      exact ret_rwi hx hb hr hlk (by simp [c1, c2]) (kP_eq (by simp [c1, c2]) hP) hS dX8_player_21
set_option maxHeartbeats 4000000 in
set_option maxRecDepth 100000 in
theorem kX8_nut (l : Launch) (g : gG) (x : Nat → Nat) (im te tr gu : Nat) (ab be : Int64) (tb tn tf : Int32) (a ay ap : Nat → Nat) (s1 s2 s3 : Nat) (r : Nat → Int32) (N : Nat) (f : Nat → Int32) (p k h w : Int32) (hw : Wf r) : Met l yX8_nut (.code yX8_nut cX8_nut 5 (some .int) :: gw) (rmN 2) (va_Pc [.ref (x 0), .int (p), .int (k), .int (h), .int (w)] (rwPre g (cO g x (a 0) im te tr gu ab be tb tn tf ++ (gW g a (ay 0) (ap 0) s1 s2 s3 ++ (yW g ay r ++ (pW g ap N f ++ [])))))) (rwQi g (cO g x (a 0) im te tr gu ab be tb tn tf ++ (gW g a (ay 0) (ap 0) s1 s2 s3 ++ (yW g ay r ++ (pW g ap N f ++ [])))) (cO g x (a 0) im te tr gu ab be (if (yPl r p && wth k 0 5 && wth h 0 9 && wth w 1 9) = true then tb else tb + 1) tn (if (yPl r p && wth k 0 5 && wth h 0 9 && wth w 1 9) = true then (if r 2 < 6 then tf else tf + 1) else tf) ++ (gW g a (ay 0) (ap 0) s1 s2 s3 ++ (yW g ay (if (yPl r p && wth k 0 5 && wth h 0 9 && wth w 1 9) = true then (if r 2 < 6 then upd (upd (upd (upd (upd (upd (upd r (9 + cl (r 2)) p) (15 + cl (r 2)) k) (21 + cl (r 2)) h) (27 + cl (r 2)) w) (33 + cl (r 2)) 0) (39 + cl (r 2)) 1) 2 (r 2 + 1) else r) else r) ++ (pW g ap (if (yPl r p && wth k 0 5 && wth h 0 9 && wth w 1 9) = true then (if r 2 < 6 then 0 else N) else N) f ++ [])))) (if (yPl r p && wth k 0 5 && wth h 0 9 && wth w 1 9) = true then (if r 2 < 6 then r 2 else -4) else -2)) 0 0 (dm (cO g x (a 0) im te tr gu ab be tb tn tf ++ (gW g a (ay 0) (ap 0) s1 s2 s3 ++ (yW g ay r ++ (pW g ap N f ++ []))))) := by
  refine met_start (by decide) (Nat.le_of_ble_eq_true rfl) ?_
  intro pp ee ss mm bl mt cd hC hpre ls hl
  obtain ⟨⟨hx, hb, hml, hown, hts⟩, hr, hlk, hnm⟩ := id hC
  have hl : lv_has ls 5 [(0, .ref (x 0)), (1, .int (p)), (2, .int (k)), (3, .int (h)), (4, .int (w))] := hl
  obtain ⟨hP, hK, hD⟩ := hpre
  have hS : va_S (dm (cO g x (a 0) im te tr gu ab be tb tn tf ++ (gW g a (ay 0) (ap 0) s1 s2 s3 ++ (yW g ay r ++ (pW g ap N f ++ []))))) ss.heap ss.heap [] := va_S.rf
  have hD := vD_self hD
  refine lv_aload_n hx hb dX8_nut_0 rfl (lv_at hl 0 rfl) ?_
  refine kget hC.1 hK (kP_app.mp hP).1 0 rfl rfl in_8 0 (by decide) (gw_in m_282 rfl) rfl dX8_nut_1 ?_
  refine kget hC.1 hK (kP_app.mp (kP_app.mp hP).2).1 0 rfl rfl in_1 0 (by decide) (gw_in m_180 rfl) rfl dX8_nut_4 ?_
  refine lv_iload_n hx hb dX8_nut_7 rfl (lv_at hl 1 rfl) ?_
  refine ro_i (run_V (As := [.int (p)]) (rest := []) hC.1 ckX7_isPlayer (kX7_isPlayer l g ay r p) (gw_in m_356 rfl) (fb_ro _ _ _) (va_recv hK.1 (kP_app.mp (kP_app.mp (kP_app.mp hP).2).2).1 (q0 := 0) rfl rfl) (fun U hU hW => ⟨by rw [hU]; exact (kP_app.mp (kP_app.mp (kP_app.mp hP).2).2).1, kK_warm hW hK⟩) ⟨rfl, rfl, Nat.le_of_ble_eq_true rfl, Nat.le_of_ble_eq_true rfl⟩ rfl hl.1 rfl (Nat.le_of_ble_eq_true rfl) dX8_nut_8 ⟨Nat.le_of_ble_eq_true rfl, Nat.le_of_ble_eq_true rfl⟩) ?_
  refine lv_if_eq (tgt := 42) hx hb dX8_nut_11 (by decide) (fun c1 => ?_) (fun c1 => ?_)
  · skip
    have c1 := b2i_0 c1
    refine lv_aload_n hx hb dX8_nut_42 rfl (lv_at hl 0 rfl) ?_
    refine rw_i (run_V (As := []) (rest := []) hC.1 ckX8_bad (kX8_bad l g x (a 0) im te tr gu ab be tb tn tf) (gw_in m_320 rfl) (fb_rw _ _ _) (va_recv hK.1 (kP_app.mp hP).1 (q0 := 0) rfl rfl) (fun U hU hW => ⟨by rw [hU]; exact (kP_app.mpr ⟨(kP_app.mp hP).1, kP_nil⟩), kK_warm hW hK, vD_sub (sbA _ (sb0 _)) hD⟩) ⟨rfl, rfl, Nat.le_of_ble_eq_true rfl, Nat.le_of_ble_eq_true rfl⟩ rfl hl.1 rfl (Nat.le_of_ble_eq_true rfl) dX8_nut_43 ⟨Nat.le_of_ble_eq_true rfl, Nat.le_of_ble_eq_true rfl⟩) (adr_app cO_adr rfl) (asc1 _ _) (ww' := cO g x (a 0) im te tr gu ab be (tb + 1) tn tf ++ (gW g a (ay 0) (ap 0) s1 s2 s3 ++ (yW g ay r ++ (pW g ap N f ++ [])))) (asc1 _ _) hP hD hS (fun H locs hP hD hS => ?_)
    exact ret_rwi hx hb hr hlk (by simp [c1]) (kP_eq (by simp [c1]) hP) hS dX8_nut_46
  · skip
    have c1 := b2i_1 c1
    refine lv_iload_n hx hb dX8_nut_14 rfl (lv_at hl 2 rfl) ?_
    refine ro_i (run_S (As := [.int (k)]) (rest := []) hC.1 ckX8_isKind (kX8_isKind l k) (gw_in m_340 rfl) (fb_nil _) (fun _ _ _ => trivial) ⟨rfl, rfl, Nat.le_of_ble_eq_true rfl, Nat.le_of_ble_eq_true rfl⟩ rfl hl.1 rfl (Nat.le_of_ble_eq_true rfl) dX8_nut_15 ⟨Nat.le_of_ble_eq_true rfl, Nat.le_of_ble_eq_true rfl⟩) ?_
    refine lv_if_eq (tgt := 42) hx hb dX8_nut_18 (by decide) (fun c2 => ?_) (fun c2 => ?_)
    · skip
      have c2 := b2i_0 c2
      refine lv_aload_n hx hb dX8_nut_42 rfl (lv_at hl 0 rfl) ?_
      refine rw_i (run_V (As := []) (rest := []) hC.1 ckX8_bad (kX8_bad l g x (a 0) im te tr gu ab be tb tn tf) (gw_in m_320 rfl) (fb_rw _ _ _) (va_recv hK.1 (kP_app.mp hP).1 (q0 := 0) rfl rfl) (fun U hU hW => ⟨by rw [hU]; exact (kP_app.mpr ⟨(kP_app.mp hP).1, kP_nil⟩), kK_warm hW hK, vD_sub (sbA _ (sb0 _)) hD⟩) ⟨rfl, rfl, Nat.le_of_ble_eq_true rfl, Nat.le_of_ble_eq_true rfl⟩ rfl hl.1 rfl (Nat.le_of_ble_eq_true rfl) dX8_nut_43 ⟨Nat.le_of_ble_eq_true rfl, Nat.le_of_ble_eq_true rfl⟩) (adr_app cO_adr rfl) (asc1 _ _) (ww' := cO g x (a 0) im te tr gu ab be (tb + 1) tn tf ++ (gW g a (ay 0) (ap 0) s1 s2 s3 ++ (yW g ay r ++ (pW g ap N f ++ [])))) (asc1 _ _) hP hD hS (fun H locs hP hD hS => ?_)
      exact ret_rwi hx hb hr hlk (by simp [c1, c2]) (kP_eq (by simp [c1, c2]) hP) hS dX8_nut_46
    · skip
      have c2 := b2i_1 c2
      refine lv_iload_n hx hb dX8_nut_21 rfl (lv_at hl 3 rfl) ?_
      refine lv_iconst (v := 0) hx hb dX8_nut_22 rfl ?_
      refine lv_bipush (v := 9) hx hb dX8_nut_23 rfl ?_
      refine ro_i (run_S (As := [.int (h), .int (0), .int (9)]) (rest := []) hC.1 ckX8_within (kX8_within l h 0 9) (gw_in m_317 rfl) (fb_nil _) (fun _ _ _ => trivial) ⟨rfl, rfl, Nat.le_of_ble_eq_true rfl, Nat.le_of_ble_eq_true rfl⟩ rfl hl.1 rfl (Nat.le_of_ble_eq_true rfl) dX8_nut_25 ⟨Nat.le_of_ble_eq_true rfl, Nat.le_of_ble_eq_true rfl⟩) ?_
      refine lv_if_eq (tgt := 42) hx hb dX8_nut_28 (by decide) (fun c3 => ?_) (fun c3 => ?_)
      · skip
        have c3 := b2i_0 c3
        refine lv_aload_n hx hb dX8_nut_42 rfl (lv_at hl 0 rfl) ?_
        refine rw_i (run_V (As := []) (rest := []) hC.1 ckX8_bad (kX8_bad l g x (a 0) im te tr gu ab be tb tn tf) (gw_in m_320 rfl) (fb_rw _ _ _) (va_recv hK.1 (kP_app.mp hP).1 (q0 := 0) rfl rfl) (fun U hU hW => ⟨by rw [hU]; exact (kP_app.mpr ⟨(kP_app.mp hP).1, kP_nil⟩), kK_warm hW hK, vD_sub (sbA _ (sb0 _)) hD⟩) ⟨rfl, rfl, Nat.le_of_ble_eq_true rfl, Nat.le_of_ble_eq_true rfl⟩ rfl hl.1 rfl (Nat.le_of_ble_eq_true rfl) dX8_nut_43 ⟨Nat.le_of_ble_eq_true rfl, Nat.le_of_ble_eq_true rfl⟩) (adr_app cO_adr rfl) (asc1 _ _) (ww' := cO g x (a 0) im te tr gu ab be (tb + 1) tn tf ++ (gW g a (ay 0) (ap 0) s1 s2 s3 ++ (yW g ay r ++ (pW g ap N f ++ [])))) (asc1 _ _) hP hD hS (fun H locs hP hD hS => ?_)
        exact ret_rwi hx hb hr hlk (by simp [c1, c2, c3]) (kP_eq (by simp [c1, c2, c3]) hP) hS dX8_nut_46
      · skip
        have c3 := b2i_1 c3
        refine lv_iload hx hb dX8_nut_31 (lv_at hl 4 rfl) ?_
        refine lv_iconst (v := 1) hx hb dX8_nut_33 rfl ?_
        refine lv_bipush (v := 9) hx hb dX8_nut_34 rfl ?_
        refine ro_i (run_S (As := [.int (w), .int (1), .int (9)]) (rest := []) hC.1 ckX8_within (kX8_within l w 1 9) (gw_in m_317 rfl) (fb_nil _) (fun _ _ _ => trivial) ⟨rfl, rfl, Nat.le_of_ble_eq_true rfl, Nat.le_of_ble_eq_true rfl⟩ rfl hl.1 rfl (Nat.le_of_ble_eq_true rfl) dX8_nut_36 ⟨Nat.le_of_ble_eq_true rfl, Nat.le_of_ble_eq_true rfl⟩) ?_
        refine lv_if_ne (tgt := 47) hx hb dX8_nut_39 (by decide) (fun c4 => ?_) (fun c4 => ?_)
        · skip
          have c4 := b2i_1 c4
          refine lv_aload_n hx hb dX8_nut_47 rfl (lv_at hl 0 rfl) ?_
          refine kget hC.1 hK (kP_app.mp hP).1 0 rfl rfl in_8 0 (by decide) (gw_in m_282 rfl) rfl dX8_nut_48 ?_
          refine kget hC.1 hK (kP_app.mp (kP_app.mp hP).2).1 0 rfl rfl in_1 0 (by decide) (gw_in m_180 rfl) rfl dX8_nut_51 ?_
          refine kget hC.1 hK (kP_app.mp (kP_app.mp (kP_app.mp hP).2).2).1 0 rfl rfl in_7 1 (by decide) (gw_in m_103 rfl) rfl dX8_nut_54 ?_
          refine lv_bipush (v := 6) hx hb dX8_nut_57 rfl ?_
          refine lv_icmp_lt (tgt := 67) hx hb dX8_nut_59 (by decide) (fun c5 => ?_) (fun c5 => ?_)
          · skip
            have c5' := Int32.not_le.mpr c5
            refine lv_aload_n hx hb dX8_nut_67 rfl (lv_at hl 0 rfl) ?_
            refine kget hC.1 hK (kP_app.mp hP).1 0 rfl rfl in_8 0 (by decide) (gw_in m_282 rfl) rfl dX8_nut_68 ?_
            refine kget hC.1 hK (kP_app.mp (kP_app.mp hP).2).1 0 rfl rfl in_1 1 (by decide) (gw_in m_183 rfl) rfl dX8_nut_71 ?_
            have hP : kP g (pW g ap N f ++ (cO g x (a 0) im te tr gu ab be tb tn tf ++ (gW g a (ay 0) (ap 0) s1 s2 s3 ++ (yW g ay r ++ [])))) _ := kP_perm (((pmA _ (pmA _ (pm_swap _ _ _))).trans (pmA _ (pm_swap _ _ _))).trans (pm_swap _ _ _)) hP
            have hD : va_D _ (pW g ap N f ++ (cO g x (a 0) im te tr gu ab be tb tn tf ++ (gW g a (ay 0) (ap 0) s1 s2 s3 ++ (yW g ay r ++ [])))) := vD_perm (((pmA _ (pmA _ (pm_swap _ _ _))).trans (pmA _ (pm_swap _ _ _))).trans (pm_swap _ _ _)) hD
            refine rw_v (run_V (As := []) (rest := []) hC.1 ckX3_empty (kX3_empty l g ap N f) (gw_in m_347 rfl) (fb_rw _ _ _) (va_recv hK.1 (kP_app.mp hP).1 (q0 := 0) rfl rfl) (fun U hU hW => ⟨by rw [hU]; exact (kP_app.mpr ⟨(kP_app.mp hP).1, kP_nil⟩), kK_warm hW hK, vD_sub (sbA _ (sb0 _)) hD⟩) ⟨rfl, rfl, Nat.le_of_ble_eq_true rfl, Nat.le_of_ble_eq_true rfl⟩ rfl hl.1 rfl (Nat.le_of_ble_eq_true rfl) dX8_nut_74 ⟨Nat.le_of_ble_eq_true rfl, Nat.le_of_ble_eq_true rfl⟩) (adr_app pW_adr rfl) (asc1 _ _) (ww' := pW g ap 0 f ++ (cO g x (a 0) im te tr gu ab be tb tn tf ++ (gW g a (ay 0) (ap 0) s1 s2 s3 ++ (yW g ay r ++ [])))) (asc1 _ _) hP hD hS (fun H locs hP hD hS => ?_)
            refine lv_aload_n hx hb dX8_nut_77 rfl (lv_at hl 0 rfl) ?_
            refine kget hC.1 hK (kP_app.mp (kP_app.mp hP).2).1 0 rfl rfl in_8 0 (by decide) (gw_in m_282 rfl) rfl dX8_nut_78 ?_
            refine kget hC.1 hK (kP_app.mp (kP_app.mp (kP_app.mp hP).2).2).1 0 rfl rfl in_1 0 (by decide) (gw_in m_180 rfl) rfl dX8_nut_81 ?_
            refine lv_iload_n hx hb dX8_nut_84 rfl (lv_at hl 1 rfl) ?_
            refine lv_iload_n hx hb dX8_nut_85 rfl (lv_at hl 2 rfl) ?_
            refine lv_iload_n hx hb dX8_nut_86 rfl (lv_at hl 3 rfl) ?_
            refine lv_iload hx hb dX8_nut_87 (lv_at hl 4 rfl) ?_
            have hP : kP g (yW g ay r ++ (pW g ap 0 f ++ (cO g x (a 0) im te tr gu ab be tb tn tf ++ (gW g a (ay 0) (ap 0) s1 s2 s3 ++ [])))) _ := kP_perm (((pmA _ (pmA _ (pm_swap _ _ _))).trans (pmA _ (pm_swap _ _ _))).trans (pm_swap _ _ _)) hP
            have hD : va_D _ (yW g ay r ++ (pW g ap 0 f ++ (cO g x (a 0) im te tr gu ab be tb tn tf ++ (gW g a (ay 0) (ap 0) s1 s2 s3 ++ [])))) := vD_perm (((pmA _ (pmA _ (pm_swap _ _ _))).trans (pmA _ (pm_swap _ _ _))).trans (pm_swap _ _ _)) hD
            refine rw_i (run_V (As := [.int (p), .int (k), .int (h), .int (w)]) (rest := []) hC.1 ckX7_addNut (kX7_addNut l g ay r p k h w (nu_bd hw c5)) (gw_in m_360 rfl) (fb_rw _ _ _) (va_recv hK.1 (kP_app.mp hP).1 (q0 := 0) rfl rfl) (fun U hU hW => ⟨by rw [hU]; exact (kP_app.mpr ⟨(kP_app.mp hP).1, kP_nil⟩), kK_warm hW hK, vD_sub (sbA _ (sb0 _)) hD⟩) ⟨rfl, rfl, Nat.le_of_ble_eq_true rfl, Nat.le_of_ble_eq_true rfl⟩ rfl hl.1 rfl (Nat.le_of_ble_eq_true rfl) dX8_nut_89 ⟨Nat.le_of_ble_eq_true rfl, Nat.le_of_ble_eq_true rfl⟩) (adr_app yW_adr rfl) (asc1 _ _) (ww' := yW g ay (upd (upd (upd (upd (upd (upd (upd r (9 + cl (r 2)) p) (15 + cl (r 2)) k) (21 + cl (r 2)) h) (27 + cl (r 2)) w) (33 + cl (r 2)) 0) (39 + cl (r 2)) 1) 2 (r 2 + 1)) ++ (pW g ap 0 f ++ (cO g x (a 0) im te tr gu ab be tb tn tf ++ (gW g a (ay 0) (ap 0) s1 s2 s3 ++ [])))) (asc1 _ _) hP hD hS (fun H locs hP hD hS => ?_)
            have hP : kP g (cO g x (a 0) im te tr gu ab be tb tn tf ++ (gW g a (ay 0) (ap 0) s1 s2 s3 ++ (yW g ay (upd (upd (upd (upd (upd (upd (upd r (9 + cl (r 2)) p) (15 + cl (r 2)) k) (21 + cl (r 2)) h) (27 + cl (r 2)) w) (33 + cl (r 2)) 0) (39 + cl (r 2)) 1) 2 (r 2 + 1)) ++ (pW g ap 0 f ++ [])))) _ := kP_perm ((((pmA _ (pm_swap _ _ _)).trans (pm_swap _ _ _)).trans (pmA _ (pmA _ (pm_swap _ _ _)))).trans (pmA _ (pm_swap _ _ _))) hP
            have hD : va_D _ (cO g x (a 0) im te tr gu ab be tb tn tf ++ (gW g a (ay 0) (ap 0) s1 s2 s3 ++ (yW g ay (upd (upd (upd (upd (upd (upd (upd r (9 + cl (r 2)) p) (15 + cl (r 2)) k) (21 + cl (r 2)) h) (27 + cl (r 2)) w) (33 + cl (r 2)) 0) (39 + cl (r 2)) 1) 2 (r 2 + 1)) ++ (pW g ap 0 f ++ [])))) := vD_perm ((((pmA _ (pm_swap _ _ _)).trans (pm_swap _ _ _)).trans (pmA _ (pmA _ (pm_swap _ _ _)))).trans (pmA _ (pm_swap _ _ _))) hD
            exact ret_rwi hx hb hr hlk (by simp [c1, c2, c3, c4, c5, c5']) (kP_eq (by simp [c1, c2, c3, c4, c5, c5']) hP) hS dX8_nut_92
          · skip
            have c5' := Int32.not_lt.mp c5
            refine lv_aload_n hx hb dX8_nut_62 rfl (lv_at hl 0 rfl) ?_
            refine rw_i (run_V (As := []) (rest := []) hC.1 ckX8_full (kX8_full l g x (a 0) im te tr gu ab be tb tn tf) (gw_in m_343 rfl) (fb_rw _ _ _) (va_recv hK.1 (kP_app.mp hP).1 (q0 := 0) rfl rfl) (fun U hU hW => ⟨by rw [hU]; exact (kP_app.mpr ⟨(kP_app.mp hP).1, kP_nil⟩), kK_warm hW hK, vD_sub (sbA _ (sb0 _)) hD⟩) ⟨rfl, rfl, Nat.le_of_ble_eq_true rfl, Nat.le_of_ble_eq_true rfl⟩ rfl hl.1 rfl (Nat.le_of_ble_eq_true rfl) dX8_nut_63 ⟨Nat.le_of_ble_eq_true rfl, Nat.le_of_ble_eq_true rfl⟩) (adr_app cO_adr rfl) (asc1 _ _) (ww' := cO g x (a 0) im te tr gu ab be tb tn (tf + 1) ++ (gW g a (ay 0) (ap 0) s1 s2 s3 ++ (yW g ay r ++ (pW g ap N f ++ [])))) (asc1 _ _) hP hD hS (fun H locs hP hD hS => ?_)
            exact ret_rwi hx hb hr hlk (by simp [c1, c2, c3, c4, c5, c5']) (kP_eq (by simp [c1, c2, c3, c4, c5, c5']) hP) hS dX8_nut_66
        · skip
          have c4 := b2i_0 c4
          refine lv_aload_n hx hb dX8_nut_42 rfl (lv_at hl 0 rfl) ?_
          refine rw_i (run_V (As := []) (rest := []) hC.1 ckX8_bad (kX8_bad l g x (a 0) im te tr gu ab be tb tn tf) (gw_in m_320 rfl) (fb_rw _ _ _) (va_recv hK.1 (kP_app.mp hP).1 (q0 := 0) rfl rfl) (fun U hU hW => ⟨by rw [hU]; exact (kP_app.mpr ⟨(kP_app.mp hP).1, kP_nil⟩), kK_warm hW hK, vD_sub (sbA _ (sb0 _)) hD⟩) ⟨rfl, rfl, Nat.le_of_ble_eq_true rfl, Nat.le_of_ble_eq_true rfl⟩ rfl hl.1 rfl (Nat.le_of_ble_eq_true rfl) dX8_nut_43 ⟨Nat.le_of_ble_eq_true rfl, Nat.le_of_ble_eq_true rfl⟩) (adr_app cO_adr rfl) (asc1 _ _) (ww' := cO g x (a 0) im te tr gu ab be (tb + 1) tn tf ++ (gW g a (ay 0) (ap 0) s1 s2 s3 ++ (yW g ay r ++ (pW g ap N f ++ [])))) (asc1 _ _) hP hD hS (fun H locs hP hD hS => ?_)
          exact ret_rwi hx hb hr hlk (by simp [c1, c2, c3, c4]) (kP_eq (by simp [c1, c2, c3, c4]) hP) hS dX8_nut_46
set_option maxHeartbeats 4000000 in
set_option maxRecDepth 100000 in
theorem kX8_type (l : Launch) (g : gG) (x : Nat → Nat) (nw im tr gu : Nat) (ab be : Int64) (tb tn tf : Int32) (e : Nat → Nat) (tN : Nat) (flt : Int32) (tx : Nat → Int32) (so : Int32) (sta beh : Nat) (va : Int32) (c : Int32) (hN : tN ≤ 150) : Met l yX8_type (.code yX8_type cX8_type 2 (some .int) :: gw) (rmN 1) (va_Pc [.ref (x 0), .int (c)] (rwPre g (cO g x nw im (e 0) tr gu ab be tb tn tf ++ (xW g e tN flt tx so sta beh va ++ [])))) (rwQi g (cO g x nw im (e 0) tr gu ab be tb tn tf ++ (xW g e tN flt tx so sta beh va ++ [])) (cO g x nw im (e 0) tr gu ab be (if wth c 0 127 = true then tb else tb + 1) tn (if wth c 0 127 = true then (if tN = 150 then tf + 1 else tf) else tf) ++ (xW g e (if wth c 0 127 = true then (if tN = 150 then tN else tN + 1) else tN) flt (if wth c 0 127 = true then (if tN = 150 then tx else upd tx tN c) else tx) so sta beh va ++ [])) (if wth c 0 127 = true then (if tN = 150 then -4 else nI (tN + 1)) else -2)) 0 0 (dm (cO g x nw im (e 0) tr gu ab be tb tn tf ++ (xW g e tN flt tx so sta beh va ++ []))) := by
  refine met_start (by decide) (Nat.le_of_ble_eq_true rfl) ?_
  intro pp ee ss mm bl mt cd hC hpre ls hl
  obtain ⟨⟨hx, hb, hml, hown, hts⟩, hr, hlk, hnm⟩ := id hC
  have hl : lv_has ls 2 [(0, .ref (x 0)), (1, .int (c))] := hl
  obtain ⟨hP, hK, hD⟩ := hpre
  have hS : va_S (dm (cO g x nw im (e 0) tr gu ab be tb tn tf ++ (xW g e tN flt tx so sta beh va ++ []))) ss.heap ss.heap [] := va_S.rf
  have hD := vD_self hD
  refine lv_iload_n hx hb dX8_type_0 rfl (lv_at hl 1 rfl) ?_
  refine lv_iconst (v := 0) hx hb dX8_type_1 rfl ?_
  refine lv_bipush (v := 127) hx hb dX8_type_2 rfl ?_
  refine ro_i (run_S (As := [.int (c), .int (0), .int (127)]) (rest := []) hC.1 ckX8_within (kX8_within l c 0 127) (gw_in m_317 rfl) (fb_nil _) (fun _ _ _ => trivial) ⟨rfl, rfl, Nat.le_of_ble_eq_true rfl, Nat.le_of_ble_eq_true rfl⟩ rfl hl.1 rfl (Nat.le_of_ble_eq_true rfl) dX8_type_4 ⟨Nat.le_of_ble_eq_true rfl, Nat.le_of_ble_eq_true rfl⟩) ?_
  refine lv_if_ne (tgt := 15) hx hb dX8_type_7 (by decide) (fun c1 => ?_) (fun c1 => ?_)
  · skip
    have c1 := b2i_1 c1
    refine lv_aload_n hx hb dX8_type_15 rfl (lv_at hl 0 rfl) ?_
    refine kget hC.1 hK (kP_app.mp hP).1 0 rfl rfl in_8 2 (by decide) (gw_in m_284 rfl) rfl dX8_type_16 ?_
    refine ro_i (run_V (As := []) (rest := []) hC.1 ckX5_isFull (kX5_isFull l g e tN flt tx so sta beh va) (gw_in m_368 rfl) (fb_ro _ _ _) (va_recv hK.1 (kP_app.mp (kP_app.mp hP).2).1 (q0 := 0) rfl rfl) (fun U hU hW => ⟨by rw [hU]; exact (kP_app.mp (kP_app.mp hP).2).1, kK_warm hW hK⟩) ⟨rfl, rfl, Nat.le_of_ble_eq_true rfl, Nat.le_of_ble_eq_true rfl⟩ rfl hl.1 rfl (Nat.le_of_ble_eq_true rfl) dX8_type_19 ⟨Nat.le_of_ble_eq_true rfl, Nat.le_of_ble_eq_true rfl⟩) ?_
    refine lv_if_eq (tgt := 30) hx hb dX8_type_22 (by decide) (fun c2 => ?_) (fun c2 => ?_)
    · skip
      have c2 := b2i_0 c2
      have h150 : ¬ tN = 150 := by have h9 := c2; rw [show (150 : Int32) = nI 150 from rfl, decide_eq_false_iff_not, nI_leI (by omega) (by omega)] at h9; omega
      refine lv_aload_n hx hb dX8_type_30 rfl (lv_at hl 0 rfl) ?_
      refine kget hC.1 hK (kP_app.mp hP).1 0 rfl rfl in_8 2 (by decide) (gw_in m_284 rfl) rfl dX8_type_31 ?_
      refine lv_iload_n hx hb dX8_type_34 rfl (lv_at hl 1 rfl) ?_
      have hP : kP g (xW g e tN flt tx so sta beh va ++ (cO g x nw im (e 0) tr gu ab be tb tn tf ++ [])) _ := kP_perm (pm_swap _ _ _) hP
      have hD : va_D _ (xW g e tN flt tx so sta beh va ++ (cO g x nw im (e 0) tr gu ab be tb tn tf ++ [])) := vD_perm (pm_swap _ _ _) hD
      refine rw_v (run_V (As := [.int (c)]) (rest := []) hC.1 ckX5_add (kX5_add l g e tN flt tx so sta beh va c (by omega)) (gw_in m_372 rfl) (fb_rw _ _ _) (va_recv hK.1 (kP_app.mp hP).1 (q0 := 0) rfl rfl) (fun U hU hW => ⟨by rw [hU]; exact (kP_app.mpr ⟨(kP_app.mp hP).1, kP_nil⟩), kK_warm hW hK, vD_sub (sbA _ (sb0 _)) hD⟩) ⟨rfl, rfl, Nat.le_of_ble_eq_true rfl, Nat.le_of_ble_eq_true rfl⟩ rfl hl.1 rfl (Nat.le_of_ble_eq_true rfl) dX8_type_35 ⟨Nat.le_of_ble_eq_true rfl, Nat.le_of_ble_eq_true rfl⟩) (adr_app xW_adr rfl) (asc1 _ _) (ww' := xW g e (tN + 1) flt (upd tx tN c) so sta beh va ++ (cO g x nw im (e 0) tr gu ab be tb tn tf ++ [])) (asc1 _ _) hP hD hS (fun H locs hP hD hS => ?_)
      refine lv_aload_n hx hb dX8_type_38 rfl (lv_at hl 0 rfl) ?_
      refine kget hC.1 hK (kP_app.mp (kP_app.mp hP).2).1 0 rfl rfl in_8 2 (by decide) (gw_in m_284 rfl) rfl dX8_type_39 ?_
      refine kget hC.1 hK (kP_app.mp hP).1 0 rfl rfl in_5 0 (by decide) (gw_in m_209 rfl) rfl dX8_type_42 ?_
      have hP : kP g (cO g x nw im (e 0) tr gu ab be tb tn tf ++ (xW g e (tN + 1) flt (upd tx tN c) so sta beh va ++ [])) _ := kP_perm (pm_swap _ _ _) hP
      have hD : va_D _ (cO g x nw im (e 0) tr gu ab be tb tn tf ++ (xW g e (tN + 1) flt (upd tx tN c) so sta beh va ++ [])) := vD_perm (pm_swap _ _ _) hD
      exact ret_rwi hx hb hr hlk (by simp [c1, h150]) (kP_eq (by simp [c1, h150]) hP) hS dX8_type_45
    · skip
      have c2 := b2i_1 c2
      have h150 : tN = 150 := by have h9 := c2; rw [show (150 : Int32) = nI 150 from rfl, decide_eq_true_eq, nI_leI (by omega) (by omega)] at h9; omega
      refine lv_aload_n hx hb dX8_type_25 rfl (lv_at hl 0 rfl) ?_
      refine rw_i (run_V (As := []) (rest := []) hC.1 ckX8_full (kX8_full l g x nw im (e 0) tr gu ab be tb tn tf) (gw_in m_343 rfl) (fb_rw _ _ _) (va_recv hK.1 (kP_app.mp hP).1 (q0 := 0) rfl rfl) (fun U hU hW => ⟨by rw [hU]; exact (kP_app.mpr ⟨(kP_app.mp hP).1, kP_nil⟩), kK_warm hW hK, vD_sub (sbA _ (sb0 _)) hD⟩) ⟨rfl, rfl, Nat.le_of_ble_eq_true rfl, Nat.le_of_ble_eq_true rfl⟩ rfl hl.1 rfl (Nat.le_of_ble_eq_true rfl) dX8_type_26 ⟨Nat.le_of_ble_eq_true rfl, Nat.le_of_ble_eq_true rfl⟩) (adr_app cO_adr rfl) (asc1 _ _) (ww' := cO g x nw im (e 0) tr gu ab be tb tn (tf + 1) ++ (xW g e tN flt tx so sta beh va ++ [])) (asc1 _ _) hP hD hS (fun H locs hP hD hS => ?_)
      exact ret_rwi hx hb hr hlk (by simp [c1, h150]) (kP_eq (by simp [c1, h150]) hP) hS dX8_type_29
  · skip
    have c1 := b2i_0 c1
    refine lv_aload_n hx hb dX8_type_10 rfl (lv_at hl 0 rfl) ?_
    refine rw_i (run_V (As := []) (rest := []) hC.1 ckX8_bad (kX8_bad l g x nw im (e 0) tr gu ab be tb tn tf) (gw_in m_320 rfl) (fb_rw _ _ _) (va_recv hK.1 (kP_app.mp hP).1 (q0 := 0) rfl rfl) (fun U hU hW => ⟨by rw [hU]; exact (kP_app.mpr ⟨(kP_app.mp hP).1, kP_nil⟩), kK_warm hW hK, vD_sub (sbA _ (sb0 _)) hD⟩) ⟨rfl, rfl, Nat.le_of_ble_eq_true rfl, Nat.le_of_ble_eq_true rfl⟩ rfl hl.1 rfl (Nat.le_of_ble_eq_true rfl) dX8_type_11 ⟨Nat.le_of_ble_eq_true rfl, Nat.le_of_ble_eq_true rfl⟩) (adr_app cO_adr rfl) (asc1 _ _) (ww' := cO g x nw im (e 0) tr gu ab be (tb + 1) tn tf ++ (xW g e tN flt tx so sta beh va ++ [])) (asc1 _ _) hP hD hS (fun H locs hP hD hS => ?_)
    exact ret_rwi hx hb hr hlk (by simp [c1]) (kP_eq (by simp [c1]) hP) hS dX8_type_14
set_option maxHeartbeats 4000000 in
set_option maxRecDepth 100000 in
theorem kX8_clear (l : Launch) (g : gG) (x : Nat → Nat) (nw im tr gu : Nat) (ab be : Int64) (tb tn tf : Int32) (e : Nat → Nat) (tN : Nat) (flt : Int32) (tx : Nat → Int32) (so : Int32) (sta beh : Nat) (va : Int32)  : Met l yX8_clear (.code yX8_clear cX8_clear 2 (some .int) :: gw) (rmN 0) (va_Pc [.ref (x 0)] (rwPre g (cO g x nw im (e 0) tr gu ab be tb tn tf ++ (xW g e tN flt tx so sta beh va ++ [])))) (rwQi g (cO g x nw im (e 0) tr gu ab be tb tn tf ++ (xW g e tN flt tx so sta beh va ++ [])) (cO g x nw im (e 0) tr gu ab be tb tn tf ++ (xW g e 0 flt tx so sta beh va ++ [])) (nI tN)) 0 0 (dm (cO g x nw im (e 0) tr gu ab be tb tn tf ++ (xW g e tN flt tx so sta beh va ++ []))) := by
  refine met_start (by decide) (Nat.le_of_ble_eq_true rfl) ?_
  intro pp ee ss mm bl mt cd hC hpre ls hl
  obtain ⟨⟨hx, hb, hml, hown, hts⟩, hr, hlk, hnm⟩ := id hC
  have hl : lv_has ls 2 [(0, .ref (x 0))] := hl
  obtain ⟨hP, hK, hD⟩ := hpre
  have hS : va_S (dm (cO g x nw im (e 0) tr gu ab be tb tn tf ++ (xW g e tN flt tx so sta beh va ++ []))) ss.heap ss.heap [] := va_S.rf
  have hD := vD_self hD
  refine lv_aload_n hx hb dX8_clear_0 rfl (lv_at hl 0 rfl) ?_
  refine kget hC.1 hK (kP_app.mp hP).1 0 rfl rfl in_8 2 (by decide) (gw_in m_284 rfl) rfl dX8_clear_1 ?_
  refine kget hC.1 hK (kP_app.mp (kP_app.mp hP).2).1 0 rfl rfl in_5 0 (by decide) (gw_in m_209 rfl) rfl dX8_clear_4 ?_
  refine lv_istore_n (lv' := [(1, .int (nI tN)), (0, .ref (x 0))]) hx hb dX8_clear_7 rfl hl (by decide) rfl (fun ls hl => ?_)
  refine lv_aload_n hx hb dX8_clear_8 rfl (lv_at hl 1 rfl) ?_
  refine kget hC.1 hK (kP_app.mp hP).1 0 rfl rfl in_8 2 (by decide) (gw_in m_284 rfl) rfl dX8_clear_9 ?_
  refine lv_iconst (v := 0) hx hb dX8_clear_12 rfl ?_
  have hP : kP g (xW g e tN flt tx so sta beh va ++ (cO g x nw im (e 0) tr gu ab be tb tn tf ++ [])) _ := kP_perm (pm_swap _ _ _) hP
  have hD : va_D _ (xW g e tN flt tx so sta beh va ++ (cO g x nw im (e 0) tr gu ab be tb tn tf ++ [])) := vD_perm (pm_swap _ _ _) hD
  refine kput (B' := xW g e 0 flt tx so sta beh va) hC.1 hK hP hD hS 0 rfl rfl in_5 tyX5 tyX5_ok nmX5 0 (by decide) (gw_in m_209 rfl) rfl (ty := .int) (by decide +kernel) rfl rfl (Nat.le_of_ble_eq_true rfl) (fun _ h => h) xW_adr dX8_clear_13 (fun H locs hP hD hS => ?_)
  refine lv_iload_n hx hb dX8_clear_16 rfl (lv_at hl 0 rfl) ?_
  have hP : kP g (cO g x nw im (e 0) tr gu ab be tb tn tf ++ (xW g e 0 flt tx so sta beh va ++ [])) _ := kP_perm (pm_swap _ _ _) hP
  have hD : va_D _ (cO g x nw im (e 0) tr gu ab be tb tn tf ++ (xW g e 0 flt tx so sta beh va ++ [])) := vD_perm (pm_swap _ _ _) hD
  exact ret_rwi hx hb hr hlk (by rfl) (hP) hS dX8_clear_17
set_option maxHeartbeats 4000000 in
set_option maxRecDepth 100000 in
theorem kX8_strikes (l : Launch) (g : gG) (x : Nat → Nat) (im te tr gu : Nat) (ab be : Int64) (tb tn tf : Int32) (a ay ap : Nat → Nat) (s1 s2 s3 : Nat) (r : Nat → Int32) (N : Nat) (f : Nat → Int32) (i j : Int32) (hw : Wf r) (hN : N ≤ 8) : Met l yX8_strikes (.code yX8_strikes cX8_strikes 3 (some .int) :: gw) (rmN 4) (va_Pc [.ref (x 0), .int (i), .int (j)] (rwPre g (cO g x (a 0) im te tr gu ab be tb tn tf ++ (gW g a (ay 0) (ap 0) s1 s2 s3 ++ (yW g ay r ++ (pW g ap N f ++ [])))))) (rwQi g (cO g x (a 0) im te tr gu ab be tb tn tf ++ (gW g a (ay 0) (ap 0) s1 s2 s3 ++ (yW g ay r ++ (pW g ap N f ++ [])))) (cO g x (a 0) im te tr gu ab be (if (yNut r i && yNut r j && decide (¬ i = j)) = true then tb else tb + 1) (if (yNut r i && yNut r j && decide (¬ i = j)) = true then (if yCan r i j = true then tn else tn + 1) else tn) tf ++ (gW g a (ay 0) (ap 0) s1 s2 s3 ++ (yW g ay (if (yNut r i && yNut r j && decide (¬ i = j)) = true then (if yCan r i j = true then stk r i j else r) else r) ++ (pW g ap (if (yNut r i && yNut r j && decide (¬ i = j)) = true then (if yCan r i j = true then kpN N else N) else N) (if (yNut r i && yNut r j && decide (¬ i = j)) = true then (if yCan r i j = true then kpF r N f else f) else f) ++ [])))) (if (yNut r i && yNut r j && decide (¬ i = j)) = true then (if yCan r i j = true then yFact (stk r i j) j 4 else -3) else -2)) 0 0 (dm (cO g x (a 0) im te tr gu ab be tb tn tf ++ (gW g a (ay 0) (ap 0) s1 s2 s3 ++ (yW g ay r ++ (pW g ap N f ++ []))))) := by
  refine met_start (by decide) (Nat.le_of_ble_eq_true rfl) ?_
  intro pp ee ss mm bl mt cd hC hpre ls hl
  obtain ⟨⟨hx, hb, hml, hown, hts⟩, hr, hlk, hnm⟩ := id hC
  have hl : lv_has ls 3 [(0, .ref (x 0)), (1, .int (i)), (2, .int (j))] := hl
  obtain ⟨hP, hK, hD⟩ := hpre
  have hS : va_S (dm (cO g x (a 0) im te tr gu ab be tb tn tf ++ (gW g a (ay 0) (ap 0) s1 s2 s3 ++ (yW g ay r ++ (pW g ap N f ++ []))))) ss.heap ss.heap [] := va_S.rf
  have hD := vD_self hD
  refine lv_aload_n hx hb dX8_strikes_0 rfl (lv_at hl 0 rfl) ?_
  refine lv_iload_n hx hb dX8_strikes_1 rfl (lv_at hl 1 rfl) ?_
  refine lv_iload_n hx hb dX8_strikes_2 rfl (lv_at hl 2 rfl) ?_
  refine ro_i (run_V (As := [.int (i), .int (j)]) (rest := []) hC.1 ckX8_areTwoNuts (kX8_areTwoNuts l g x im te tr gu ab be tb tn tf a ay (ap 0) s1 s2 s3 r i j) (gw_in m_569 rfl) (fb_ro _ _ _) (va_recv hK.1 (kP_app.mp hP).1 (q0 := 0) rfl rfl) (fun U hU hW => ⟨by rw [hU]; exact (kP_app.mpr ⟨(kP_app.mp hP).1, (kP_app.mpr ⟨(kP_app.mp (kP_app.mp hP).2).1, (kP_app.mpr ⟨(kP_app.mp (kP_app.mp (kP_app.mp hP).2).2).1, (kP_mem.mpr (fun _ h => absurd h List.not_mem_nil))⟩)⟩)⟩), kK_warm hW hK⟩) ⟨rfl, rfl, Nat.le_of_ble_eq_true rfl, Nat.le_of_ble_eq_true rfl⟩ rfl hl.1 rfl (Nat.le_of_ble_eq_true rfl) dX8_strikes_3 ⟨Nat.le_of_ble_eq_true rfl, Nat.le_of_ble_eq_true rfl⟩) ?_
  refine lv_if_ne (tgt := 14) hx hb dX8_strikes_6 (by decide) (fun c1 => ?_) (fun c1 => ?_)
  · skip
    have c1 := b2i_1 c1
    refine lv_aload_n hx hb dX8_strikes_14 rfl (lv_at hl 0 rfl) ?_
    refine kget hC.1 hK (kP_app.mp hP).1 0 rfl rfl in_8 0 (by decide) (gw_in m_282 rfl) rfl dX8_strikes_15 ?_
    refine kget hC.1 hK (kP_app.mp (kP_app.mp hP).2).1 0 rfl rfl in_1 0 (by decide) (gw_in m_180 rfl) rfl dX8_strikes_18 ?_
    refine lv_iload_n hx hb dX8_strikes_21 rfl (lv_at hl 1 rfl) ?_
    refine lv_iload_n hx hb dX8_strikes_22 rfl (lv_at hl 2 rfl) ?_
    refine ro_i (run_V (As := [.int (i), .int (j)]) (rest := []) hC.1 ckX7_canStrike (kX7_canStrike l g ay r i j hw.n6) (gw_in m_574 rfl) (fb_ro _ _ _) (va_recv hK.1 (kP_app.mp (kP_app.mp (kP_app.mp hP).2).2).1 (q0 := 0) rfl rfl) (fun U hU hW => ⟨by rw [hU]; exact (kP_app.mp (kP_app.mp (kP_app.mp hP).2).2).1, kK_warm hW hK⟩) ⟨rfl, rfl, Nat.le_of_ble_eq_true rfl, Nat.le_of_ble_eq_true rfl⟩ rfl hl.1 rfl (Nat.le_of_ble_eq_true rfl) dX8_strikes_23 ⟨Nat.le_of_ble_eq_true rfl, Nat.le_of_ble_eq_true rfl⟩) ?_
    refine lv_if_ne (tgt := 34) hx hb dX8_strikes_26 (by decide) (fun c2 => ?_) (fun c2 => ?_)
    · skip
      have c2 := b2i_1 c2
      refine lv_aload_n hx hb dX8_strikes_34 rfl (lv_at hl 0 rfl) ?_
      refine kget hC.1 hK (kP_app.mp hP).1 0 rfl rfl in_8 0 (by decide) (gw_in m_282 rfl) rfl dX8_strikes_35 ?_
      refine kget hC.1 hK (kP_app.mp (kP_app.mp hP).2).1 0 rfl rfl in_1 1 (by decide) (gw_in m_183 rfl) rfl dX8_strikes_38 ?_
      refine lv_aload_n hx hb dX8_strikes_41 rfl (lv_at hl 0 rfl) ?_
      refine kget hC.1 hK (kP_app.mp hP).1 0 rfl rfl in_8 0 (by decide) (gw_in m_282 rfl) rfl dX8_strikes_42 ?_
      refine kget hC.1 hK (kP_app.mp (kP_app.mp hP).2).1 0 rfl rfl in_1 0 (by decide) (gw_in m_180 rfl) rfl dX8_strikes_45 ?_
      have hP : kP g (pW g ap N f ++ (yW g ay r ++ (cO g x (a 0) im te tr gu ab be tb tn tf ++ (gW g a (ay 0) (ap 0) s1 s2 s3 ++ [])))) _ := kP_perm (((((pmA _ (pmA _ (pm_swap _ _ _))).trans (pmA _ (pm_swap _ _ _))).trans (pm_swap _ _ _)).trans (pmA _ (pmA _ (pm_swap _ _ _)))).trans (pmA _ (pm_swap _ _ _))) hP
      have hD : va_D _ (pW g ap N f ++ (yW g ay r ++ (cO g x (a 0) im te tr gu ab be tb tn tf ++ (gW g a (ay 0) (ap 0) s1 s2 s3 ++ [])))) := vD_perm (((((pmA _ (pmA _ (pm_swap _ _ _))).trans (pmA _ (pm_swap _ _ _))).trans (pm_swap _ _ _)).trans (pmA _ (pmA _ (pm_swap _ _ _)))).trans (pmA _ (pm_swap _ _ _))) hD
      refine rw_v (run_V (As := [.ref (ay 0)]) (rest := []) hC.1 ckX3_keep (kX3_keep l g ap N f ay r hN) (gw_in m_579 rfl) (fb_rw _ _ _) (va_recv hK.1 (kP_app.mp hP).1 (q0 := 0) rfl rfl) (fun U hU hW => ⟨by rw [hU]; exact (kP_app.mpr ⟨(kP_app.mp hP).1, (kP_app.mpr ⟨(kP_app.mp (kP_app.mp hP).2).1, kP_nil⟩)⟩), kK_warm hW hK, vD_sub (sbA _ (sbA _ (sb0 _))) hD⟩) ⟨rfl, rfl, Nat.le_of_ble_eq_true rfl, Nat.le_of_ble_eq_true rfl⟩ rfl hl.1 rfl (Nat.le_of_ble_eq_true rfl) dX8_strikes_48 ⟨Nat.le_of_ble_eq_true rfl, Nat.le_of_ble_eq_true rfl⟩) (adr_app pW_adr (adr_app rfl rfl)) (asc2 _ _ _) (ww' := pW g ap (kpN N) (kpF r N f) ++ (yW g ay r ++ (cO g x (a 0) im te tr gu ab be tb tn tf ++ (gW g a (ay 0) (ap 0) s1 s2 s3 ++ [])))) (asc2 _ _ _) hP hD hS (fun H locs hP hD hS => ?_)
      refine lv_aload_n hx hb dX8_strikes_51 rfl (lv_at hl 0 rfl) ?_
      refine kget hC.1 hK (kP_app.mp (kP_app.mp (kP_app.mp hP).2).2).1 0 rfl rfl in_8 0 (by decide) (gw_in m_282 rfl) rfl dX8_strikes_52 ?_
      refine kget hC.1 hK (kP_app.mp (kP_app.mp (kP_app.mp (kP_app.mp hP).2).2).2).1 0 rfl rfl in_1 0 (by decide) (gw_in m_180 rfl) rfl dX8_strikes_55 ?_
      refine lv_iload_n hx hb dX8_strikes_58 rfl (lv_at hl 1 rfl) ?_
      refine lv_iload_n hx hb dX8_strikes_59 rfl (lv_at hl 2 rfl) ?_
      have hP : kP g (yW g ay r ++ (pW g ap (kpN N) (kpF r N f) ++ (cO g x (a 0) im te tr gu ab be tb tn tf ++ (gW g a (ay 0) (ap 0) s1 s2 s3 ++ [])))) _ := kP_perm (pm_swap _ _ _) hP
      have hD : va_D _ (yW g ay r ++ (pW g ap (kpN N) (kpF r N f) ++ (cO g x (a 0) im te tr gu ab be tb tn tf ++ (gW g a (ay 0) (ap 0) s1 s2 s3 ++ [])))) := vD_perm (pm_swap _ _ _) hD
      refine rw_i (run_V (As := [.int (i), .int (j)]) (rest := []) hC.1 ckX7_strike (kX7_strike l g ay r i j hw) (gw_in m_588 rfl) (fb_rw _ _ _) (va_recv hK.1 (kP_app.mp hP).1 (q0 := 0) rfl rfl) (fun U hU hW => ⟨by rw [hU]; exact (kP_app.mpr ⟨(kP_app.mp hP).1, kP_nil⟩), kK_warm hW hK, vD_sub (sbA _ (sb0 _)) hD⟩) ⟨rfl, rfl, Nat.le_of_ble_eq_true rfl, Nat.le_of_ble_eq_true rfl⟩ rfl hl.1 rfl (Nat.le_of_ble_eq_true rfl) dX8_strikes_60 ⟨Nat.le_of_ble_eq_true rfl, Nat.le_of_ble_eq_true rfl⟩) (adr_app yW_adr rfl) (asc1 _ _) (ww' := yW g ay (if yCan r i j = true then stk r i j else r) ++ (pW g ap (kpN N) (kpF r N f) ++ (cO g x (a 0) im te tr gu ab be tb tn tf ++ (gW g a (ay 0) (ap 0) s1 s2 s3 ++ [])))) (asc1 _ _) hP hD hS (fun H locs hP hD hS => ?_)
      rw [show (if yCan r i j = true then stk r i j else r) = (stk r i j) from if_pos c2] at hP hD
      refine lv_pop hx hb dX8_strikes_63 rfl ?_
      refine lv_aload_n hx hb dX8_strikes_64 rfl (lv_at hl 0 rfl) ?_
      refine kget hC.1 hK (kP_app.mp (kP_app.mp (kP_app.mp hP).2).2).1 0 rfl rfl in_8 0 (by decide) (gw_in m_282 rfl) rfl dX8_strikes_65 ?_
      refine kget hC.1 hK (kP_app.mp (kP_app.mp (kP_app.mp (kP_app.mp hP).2).2).2).1 0 rfl rfl in_1 0 (by decide) (gw_in m_180 rfl) rfl dX8_strikes_68 ?_
      refine lv_iload_n hx hb dX8_strikes_71 rfl (lv_at hl 2 rfl) ?_
      refine lv_iconst (v := 4) hx hb dX8_strikes_72 rfl ?_
      refine ro_i (run_V (As := [.int (j), .int (4)]) (rest := []) hC.1 ckX7_fact (kX7_fact l g ay (stk r i j) j 4 (Wf_stk hw (yCan_nut c2).1 (yCan_nut c2).2)) (gw_in m_589 rfl) (fb_ro _ _ _) (va_recv hK.1 (kP_app.mp hP).1 (q0 := 0) rfl rfl) (fun U hU hW => ⟨by rw [hU]; exact (kP_app.mp hP).1, kK_warm hW hK⟩) ⟨rfl, rfl, Nat.le_of_ble_eq_true rfl, Nat.le_of_ble_eq_true rfl⟩ rfl hl.1 rfl (Nat.le_of_ble_eq_true rfl) dX8_strikes_73 ⟨Nat.le_of_ble_eq_true rfl, Nat.le_of_ble_eq_true rfl⟩) ?_
      have hP : kP g (cO g x (a 0) im te tr gu ab be tb tn tf ++ (gW g a (ay 0) (ap 0) s1 s2 s3 ++ (yW g ay (stk r i j) ++ (pW g ap (kpN N) (kpF r N f) ++ [])))) _ := kP_perm ((((pmA _ (pm_swap _ _ _)).trans (pm_swap _ _ _)).trans (pmA _ (pmA _ (pm_swap _ _ _)))).trans (pmA _ (pm_swap _ _ _))) hP
      have hD : va_D _ (cO g x (a 0) im te tr gu ab be tb tn tf ++ (gW g a (ay 0) (ap 0) s1 s2 s3 ++ (yW g ay (stk r i j) ++ (pW g ap (kpN N) (kpF r N f) ++ [])))) := vD_perm ((((pmA _ (pm_swap _ _ _)).trans (pm_swap _ _ _)).trans (pmA _ (pmA _ (pm_swap _ _ _)))).trans (pmA _ (pm_swap _ _ _))) hD
      exact ret_rwi hx hb hr hlk (by simp only [c1, c2, if_true, if_false, eq_self, Bool.false_eq_true, Bool.and_true, Bool.true_and, Bool.and_false, Bool.false_and]) (kP_eq (by simp only [c1, c2, if_true, if_false, eq_self, Bool.false_eq_true, Bool.and_true, Bool.true_and, Bool.and_false, Bool.false_and]) hP) hS dX8_strikes_76
    · skip
      have c2 := b2i_0 c2
      refine lv_aload_n hx hb dX8_strikes_29 rfl (lv_at hl 0 rfl) ?_
      refine rw_i (run_V (As := []) (rest := []) hC.1 ckX8_no (kX8_no l g x (a 0) im te tr gu ab be tb tn tf) (gw_in m_575 rfl) (fb_rw _ _ _) (va_recv hK.1 (kP_app.mp hP).1 (q0 := 0) rfl rfl) (fun U hU hW => ⟨by rw [hU]; exact (kP_app.mpr ⟨(kP_app.mp hP).1, kP_nil⟩), kK_warm hW hK, vD_sub (sbA _ (sb0 _)) hD⟩) ⟨rfl, rfl, Nat.le_of_ble_eq_true rfl, Nat.le_of_ble_eq_true rfl⟩ rfl hl.1 rfl (Nat.le_of_ble_eq_true rfl) dX8_strikes_30 ⟨Nat.le_of_ble_eq_true rfl, Nat.le_of_ble_eq_true rfl⟩) (adr_app cO_adr rfl) (asc1 _ _) (ww' := cO g x (a 0) im te tr gu ab be tb (tn + 1) tf ++ (gW g a (ay 0) (ap 0) s1 s2 s3 ++ (yW g ay r ++ (pW g ap N f ++ [])))) (asc1 _ _) hP hD hS (fun H locs hP hD hS => ?_)
      exact ret_rwi hx hb hr hlk (by simp only [c1, c2, if_true, if_false, eq_self, Bool.false_eq_true, Bool.and_true, Bool.true_and, Bool.and_false, Bool.false_and]) (kP_eq (by simp only [c1, c2, if_true, if_false, eq_self, Bool.false_eq_true, Bool.and_true, Bool.true_and, Bool.and_false, Bool.false_and]) hP) hS dX8_strikes_33
  · skip
    have c1 := b2i_0 c1
    refine lv_aload_n hx hb dX8_strikes_9 rfl (lv_at hl 0 rfl) ?_
    refine rw_i (run_V (As := []) (rest := []) hC.1 ckX8_bad (kX8_bad l g x (a 0) im te tr gu ab be tb tn tf) (gw_in m_320 rfl) (fb_rw _ _ _) (va_recv hK.1 (kP_app.mp hP).1 (q0 := 0) rfl rfl) (fun U hU hW => ⟨by rw [hU]; exact (kP_app.mpr ⟨(kP_app.mp hP).1, kP_nil⟩), kK_warm hW hK, vD_sub (sbA _ (sb0 _)) hD⟩) ⟨rfl, rfl, Nat.le_of_ble_eq_true rfl, Nat.le_of_ble_eq_true rfl⟩ rfl hl.1 rfl (Nat.le_of_ble_eq_true rfl) dX8_strikes_10 ⟨Nat.le_of_ble_eq_true rfl, Nat.le_of_ble_eq_true rfl⟩) (adr_app cO_adr rfl) (asc1 _ _) (ww' := cO g x (a 0) im te tr gu ab be (tb + 1) tn tf ++ (gW g a (ay 0) (ap 0) s1 s2 s3 ++ (yW g ay r ++ (pW g ap N f ++ [])))) (asc1 _ _) hP hD hS (fun H locs hP hD hS => ?_)
    exact ret_rwi hx hb hr hlk (by simp only [c1, if_true, if_false, eq_self, Bool.false_eq_true, Bool.and_true, Bool.true_and, Bool.and_false, Bool.false_and]) (kP_eq (by simp only [c1, if_true, if_false, eq_self, Bool.false_eq_true, Bool.and_true, Bool.true_and, Bool.and_false, Bool.false_and]) hP) hS dX8_strikes_13
set_option maxHeartbeats 4000000 in
set_option maxRecDepth 100000 in
theorem kX8_waits (l : Launch) (g : gG) (x : Nat → Nat) (im te tr gu : Nat) (ab be : Int64) (tb tn tf : Int32) (a ay ap : Nat → Nat) (s1 s2 s3 : Nat) (r : Nat → Int32) (N : Nat) (f : Nat → Int32) (n : Int32) (hN : N ≤ 8) : Met l yX8_waits (.code yX8_waits cX8_waits 2 (some .int) :: gw) (rmN 3) (va_Pc [.ref (x 0), .int (n)] (rwPre g (cO g x (a 0) im te tr gu ab be tb tn tf ++ (gW g a (ay 0) (ap 0) s1 s2 s3 ++ (yW g ay r ++ (pW g ap N f ++ [])))))) (rwQi g (cO g x (a 0) im te tr gu ab be tb tn tf ++ (gW g a (ay 0) (ap 0) s1 s2 s3 ++ (yW g ay r ++ (pW g ap N f ++ [])))) (cO g x (a 0) im te tr gu ab be (if wth n 1 60 = true then tb else tb + 1) tn tf ++ (gW g a (ay 0) (ap 0) s1 s2 s3 ++ (yW g ay (if wth n 1 60 = true then upd r 0 (if r 0 + n < 9999 then r 0 + n else 9999) else r) ++ (pW g ap (if wth n 1 60 = true then kpN N else N) (if wth n 1 60 = true then kpF r N f else f) ++ [])))) (if wth n 1 60 = true then (if r 0 + n < 9999 then r 0 + n else 9999) else -2)) 0 0 (dm (cO g x (a 0) im te tr gu ab be tb tn tf ++ (gW g a (ay 0) (ap 0) s1 s2 s3 ++ (yW g ay r ++ (pW g ap N f ++ []))))) := by
  refine met_start (by decide) (Nat.le_of_ble_eq_true rfl) ?_
  intro pp ee ss mm bl mt cd hC hpre ls hl
  obtain ⟨⟨hx, hb, hml, hown, hts⟩, hr, hlk, hnm⟩ := id hC
  have hl : lv_has ls 2 [(0, .ref (x 0)), (1, .int (n))] := hl
  obtain ⟨hP, hK, hD⟩ := hpre
  have hS : va_S (dm (cO g x (a 0) im te tr gu ab be tb tn tf ++ (gW g a (ay 0) (ap 0) s1 s2 s3 ++ (yW g ay r ++ (pW g ap N f ++ []))))) ss.heap ss.heap [] := va_S.rf
  have hD := vD_self hD
  refine lv_iload_n hx hb dX8_waits_0 rfl (lv_at hl 1 rfl) ?_
  refine lv_iconst (v := 1) hx hb dX8_waits_1 rfl ?_
  refine lv_bipush (v := 60) hx hb dX8_waits_2 rfl ?_
  refine ro_i (run_S (As := [.int (n), .int (1), .int (60)]) (rest := []) hC.1 ckX8_within (kX8_within l n 1 60) (gw_in m_317 rfl) (fb_nil _) (fun _ _ _ => trivial) ⟨rfl, rfl, Nat.le_of_ble_eq_true rfl, Nat.le_of_ble_eq_true rfl⟩ rfl hl.1 rfl (Nat.le_of_ble_eq_true rfl) dX8_waits_4 ⟨Nat.le_of_ble_eq_true rfl, Nat.le_of_ble_eq_true rfl⟩) ?_
  refine lv_if_ne (tgt := 15) hx hb dX8_waits_7 (by decide) (fun c1 => ?_) (fun c1 => ?_)
  · skip
    have c1 := b2i_1 c1
    refine lv_aload_n hx hb dX8_waits_15 rfl (lv_at hl 0 rfl) ?_
    refine kget hC.1 hK (kP_app.mp hP).1 0 rfl rfl in_8 0 (by decide) (gw_in m_282 rfl) rfl dX8_waits_16 ?_
    refine kget hC.1 hK (kP_app.mp (kP_app.mp hP).2).1 0 rfl rfl in_1 1 (by decide) (gw_in m_183 rfl) rfl dX8_waits_19 ?_
    refine lv_aload_n hx hb dX8_waits_22 rfl (lv_at hl 0 rfl) ?_
    refine kget hC.1 hK (kP_app.mp hP).1 0 rfl rfl in_8 0 (by decide) (gw_in m_282 rfl) rfl dX8_waits_23 ?_
    refine kget hC.1 hK (kP_app.mp (kP_app.mp hP).2).1 0 rfl rfl in_1 0 (by decide) (gw_in m_180 rfl) rfl dX8_waits_26 ?_
    have hP : kP g (pW g ap N f ++ (yW g ay r ++ (cO g x (a 0) im te tr gu ab be tb tn tf ++ (gW g a (ay 0) (ap 0) s1 s2 s3 ++ [])))) _ := kP_perm (((((pmA _ (pmA _ (pm_swap _ _ _))).trans (pmA _ (pm_swap _ _ _))).trans (pm_swap _ _ _)).trans (pmA _ (pmA _ (pm_swap _ _ _)))).trans (pmA _ (pm_swap _ _ _))) hP
    have hD : va_D _ (pW g ap N f ++ (yW g ay r ++ (cO g x (a 0) im te tr gu ab be tb tn tf ++ (gW g a (ay 0) (ap 0) s1 s2 s3 ++ [])))) := vD_perm (((((pmA _ (pmA _ (pm_swap _ _ _))).trans (pmA _ (pm_swap _ _ _))).trans (pm_swap _ _ _)).trans (pmA _ (pmA _ (pm_swap _ _ _)))).trans (pmA _ (pm_swap _ _ _))) hD
    refine rw_v (run_V (As := [.ref (ay 0)]) (rest := []) hC.1 ckX3_keep (kX3_keep l g ap N f ay r hN) (gw_in m_579 rfl) (fb_rw _ _ _) (va_recv hK.1 (kP_app.mp hP).1 (q0 := 0) rfl rfl) (fun U hU hW => ⟨by rw [hU]; exact (kP_app.mpr ⟨(kP_app.mp hP).1, (kP_app.mpr ⟨(kP_app.mp (kP_app.mp hP).2).1, kP_nil⟩)⟩), kK_warm hW hK, vD_sub (sbA _ (sbA _ (sb0 _))) hD⟩) ⟨rfl, rfl, Nat.le_of_ble_eq_true rfl, Nat.le_of_ble_eq_true rfl⟩ rfl hl.1 rfl (Nat.le_of_ble_eq_true rfl) dX8_waits_29 ⟨Nat.le_of_ble_eq_true rfl, Nat.le_of_ble_eq_true rfl⟩) (adr_app pW_adr (adr_app rfl rfl)) (asc2 _ _ _) (ww' := pW g ap (kpN N) (kpF r N f) ++ (yW g ay r ++ (cO g x (a 0) im te tr gu ab be tb tn tf ++ (gW g a (ay 0) (ap 0) s1 s2 s3 ++ [])))) (asc2 _ _ _) hP hD hS (fun H locs hP hD hS => ?_)
    refine lv_aload_n hx hb dX8_waits_32 rfl (lv_at hl 0 rfl) ?_
    refine kget hC.1 hK (kP_app.mp (kP_app.mp (kP_app.mp hP).2).2).1 0 rfl rfl in_8 0 (by decide) (gw_in m_282 rfl) rfl dX8_waits_33 ?_
    refine kget hC.1 hK (kP_app.mp (kP_app.mp (kP_app.mp (kP_app.mp hP).2).2).2).1 0 rfl rfl in_1 0 (by decide) (gw_in m_180 rfl) rfl dX8_waits_36 ?_
    refine lv_iload_n hx hb dX8_waits_39 rfl (lv_at hl 1 rfl) ?_
    have hP : kP g (yW g ay r ++ (pW g ap (kpN N) (kpF r N f) ++ (cO g x (a 0) im te tr gu ab be tb tn tf ++ (gW g a (ay 0) (ap 0) s1 s2 s3 ++ [])))) _ := kP_perm (pm_swap _ _ _) hP
    have hD : va_D _ (yW g ay r ++ (pW g ap (kpN N) (kpF r N f) ++ (cO g x (a 0) im te tr gu ab be tb tn tf ++ (gW g a (ay 0) (ap 0) s1 s2 s3 ++ [])))) := vD_perm (pm_swap _ _ _) hD
    refine rw_v (run_V (As := [.int (n)]) (rest := []) hC.1 ckX7_pass (kX7_pass l g ay r n) (gw_in m_601 rfl) (fb_rw _ _ _) (va_recv hK.1 (kP_app.mp hP).1 (q0 := 0) rfl rfl) (fun U hU hW => ⟨by rw [hU]; exact (kP_app.mpr ⟨(kP_app.mp hP).1, kP_nil⟩), kK_warm hW hK, vD_sub (sbA _ (sb0 _)) hD⟩) ⟨rfl, rfl, Nat.le_of_ble_eq_true rfl, Nat.le_of_ble_eq_true rfl⟩ rfl hl.1 rfl (Nat.le_of_ble_eq_true rfl) dX8_waits_40 ⟨Nat.le_of_ble_eq_true rfl, Nat.le_of_ble_eq_true rfl⟩) (adr_app yW_adr rfl) (asc1 _ _) (ww' := yW g ay (upd r 0 (if r 0 + n < 9999 then r 0 + n else 9999)) ++ (pW g ap (kpN N) (kpF r N f) ++ (cO g x (a 0) im te tr gu ab be tb tn tf ++ (gW g a (ay 0) (ap 0) s1 s2 s3 ++ [])))) (asc1 _ _) hP hD hS (fun H locs hP hD hS => ?_)
    refine lv_aload_n hx hb dX8_waits_43 rfl (lv_at hl 0 rfl) ?_
    refine kget hC.1 hK (kP_app.mp (kP_app.mp (kP_app.mp hP).2).2).1 0 rfl rfl in_8 0 (by decide) (gw_in m_282 rfl) rfl dX8_waits_44 ?_
    refine kget hC.1 hK (kP_app.mp (kP_app.mp (kP_app.mp (kP_app.mp hP).2).2).2).1 0 rfl rfl in_1 0 (by decide) (gw_in m_180 rfl) rfl dX8_waits_47 ?_
    refine kget hC.1 hK (kP_app.mp hP).1 0 rfl rfl in_7 2 (by decide) (gw_in m_107 rfl) rfl dX8_waits_50 ?_
    refine top_i (x := (upd r 0 (if r 0 + n < 9999 then r 0 + n else 9999)) 0) (y := if r 0 + n < 9999 then r 0 + n else 9999) upd_eq ?_
    have hP : kP g (cO g x (a 0) im te tr gu ab be tb tn tf ++ (gW g a (ay 0) (ap 0) s1 s2 s3 ++ (yW g ay (upd r 0 (if r 0 + n < 9999 then r 0 + n else 9999)) ++ (pW g ap (kpN N) (kpF r N f) ++ [])))) _ := kP_perm ((((pmA _ (pm_swap _ _ _)).trans (pm_swap _ _ _)).trans (pmA _ (pmA _ (pm_swap _ _ _)))).trans (pmA _ (pm_swap _ _ _))) hP
    have hD : va_D _ (cO g x (a 0) im te tr gu ab be tb tn tf ++ (gW g a (ay 0) (ap 0) s1 s2 s3 ++ (yW g ay (upd r 0 (if r 0 + n < 9999 then r 0 + n else 9999)) ++ (pW g ap (kpN N) (kpF r N f) ++ [])))) := vD_perm ((((pmA _ (pm_swap _ _ _)).trans (pm_swap _ _ _)).trans (pmA _ (pmA _ (pm_swap _ _ _)))).trans (pmA _ (pm_swap _ _ _))) hD
    exact ret_rwi hx hb hr hlk (by rw [if_pos c1]) (kP_eq (by simp only [c1, if_true, if_false, Bool.false_eq_true]) hP) hS dX8_waits_53
  · skip
    have c1 := b2i_0 c1
    refine lv_aload_n hx hb dX8_waits_10 rfl (lv_at hl 0 rfl) ?_
    refine rw_i (run_V (As := []) (rest := []) hC.1 ckX8_bad (kX8_bad l g x (a 0) im te tr gu ab be tb tn tf) (gw_in m_320 rfl) (fb_rw _ _ _) (va_recv hK.1 (kP_app.mp hP).1 (q0 := 0) rfl rfl) (fun U hU hW => ⟨by rw [hU]; exact (kP_app.mpr ⟨(kP_app.mp hP).1, kP_nil⟩), kK_warm hW hK, vD_sub (sbA _ (sb0 _)) hD⟩) ⟨rfl, rfl, Nat.le_of_ble_eq_true rfl, Nat.le_of_ble_eq_true rfl⟩ rfl hl.1 rfl (Nat.le_of_ble_eq_true rfl) dX8_waits_11 ⟨Nat.le_of_ble_eq_true rfl, Nat.le_of_ble_eq_true rfl⟩) (adr_app cO_adr rfl) (asc1 _ _) (ww' := cO g x (a 0) im te tr gu ab be (tb + 1) tn tf ++ (gW g a (ay 0) (ap 0) s1 s2 s3 ++ (yW g ay r ++ (pW g ap N f ++ [])))) (asc1 _ _) hP hD hS (fun H locs hP hD hS => ?_)
    exact ret_rwi hx hb hr hlk (by rw [if_neg (by rw [c1]; decide)]) (kP_eq (by simp only [c1, if_true, if_false, Bool.false_eq_true]) hP) hS dX8_waits_14
set_option maxHeartbeats 4000000 in
set_option maxRecDepth 100000 in
theorem kX8_hands (l : Launch) (g : gG) (x : Nat → Nat) (im te tr gu : Nat) (ab be : Int64) (tb tn tf : Int32) (a ay ap : Nat → Nat) (s1 s2 s3 : Nat) (r : Nat → Int32) (N : Nat) (f : Nat → Int32) (i q : Int32) (hw : Wf r) (hN : N ≤ 8) : Met l yX8_hands (.code yX8_hands cX8_hands 4 (some .int) :: gw) (rmN 4) (va_Pc [.ref (x 0), .int (i), .int (q)] (rwPre g (cO g x (a 0) im te tr gu ab be tb tn tf ++ (gW g a (ay 0) (ap 0) s1 s2 s3 ++ (yW g ay r ++ (pW g ap N f ++ [])))))) (rwQi g (cO g x (a 0) im te tr gu ab be tb tn tf ++ (gW g a (ay 0) (ap 0) s1 s2 s3 ++ (yW g ay r ++ (pW g ap N f ++ [])))) (cO g x (a 0) im te tr gu ab be (if (yNut r i && yPl r q) = true then tb else tb + 1) (if (yNut r i && yPl r q) = true then (if (decide (yFact r i 0 = q) || yBrk r i) = true then tn + 1 else tn) else tn) tf ++ (gW g a (ay 0) (ap 0) s1 s2 s3 ++ (yW g ay (if (yNut r i && yPl r q) = true then (if (decide (yFact r i 0 = q) || yBrk r i) = true then r else upd r (9 + cl i) q) else r) ++ (pW g ap (if (yNut r i && yPl r q) = true then (if (decide (yFact r i 0 = q) || yBrk r i) = true then N else kpN N) else N) (if (yNut r i && yPl r q) = true then (if (decide (yFact r i 0 = q) || yBrk r i) = true then f else kpF r N f) else f) ++ [])))) (if (yNut r i && yPl r q) = true then (if (decide (yFact r i 0 = q) || yBrk r i) = true then -3 else yFact r i 0) else -2)) 0 0 (dm (cO g x (a 0) im te tr gu ab be tb tn tf ++ (gW g a (ay 0) (ap 0) s1 s2 s3 ++ (yW g ay r ++ (pW g ap N f ++ []))))) := by
  refine met_start (by decide) (Nat.le_of_ble_eq_true rfl) ?_
  intro pp ee ss mm bl mt cd hC hpre ls hl
  obtain ⟨⟨hx, hb, hml, hown, hts⟩, hr, hlk, hnm⟩ := id hC
  have hl : lv_has ls 4 [(0, .ref (x 0)), (1, .int (i)), (2, .int (q))] := hl
  obtain ⟨hP, hK, hD⟩ := hpre
  have hS : va_S (dm (cO g x (a 0) im te tr gu ab be tb tn tf ++ (gW g a (ay 0) (ap 0) s1 s2 s3 ++ (yW g ay r ++ (pW g ap N f ++ []))))) ss.heap ss.heap [] := va_S.rf
  have hD := vD_self hD
  refine lv_aload_n hx hb dX8_hands_0 rfl (lv_at hl 0 rfl) ?_
  refine kget hC.1 hK (kP_app.mp hP).1 0 rfl rfl in_8 0 (by decide) (gw_in m_282 rfl) rfl dX8_hands_1 ?_
  refine kget hC.1 hK (kP_app.mp (kP_app.mp hP).2).1 0 rfl rfl in_1 0 (by decide) (gw_in m_180 rfl) rfl dX8_hands_4 ?_
  refine lv_iload_n hx hb dX8_hands_7 rfl (lv_at hl 1 rfl) ?_
  refine ro_i (run_V (As := [.int (i)]) (rest := []) hC.1 ckX7_isNut (kX7_isNut l g ay r i) (gw_in m_573 rfl) (fb_ro _ _ _) (va_recv hK.1 (kP_app.mp (kP_app.mp (kP_app.mp hP).2).2).1 (q0 := 0) rfl rfl) (fun U hU hW => ⟨by rw [hU]; exact (kP_app.mp (kP_app.mp (kP_app.mp hP).2).2).1, kK_warm hW hK⟩) ⟨rfl, rfl, Nat.le_of_ble_eq_true rfl, Nat.le_of_ble_eq_true rfl⟩ rfl hl.1 rfl (Nat.le_of_ble_eq_true rfl) dX8_hands_8 ⟨Nat.le_of_ble_eq_true rfl, Nat.le_of_ble_eq_true rfl⟩) ?_
  refine lv_if_eq (tgt := 28) hx hb dX8_hands_11 (by decide) (fun c1 => ?_) (fun c1 => ?_)
  · skip
    have c1 := b2i_0 c1
    refine lv_aload_n hx hb dX8_hands_28 rfl (lv_at hl 0 rfl) ?_
    refine rw_i (run_V (As := []) (rest := []) hC.1 ckX8_bad (kX8_bad l g x (a 0) im te tr gu ab be tb tn tf) (gw_in m_320 rfl) (fb_rw _ _ _) (va_recv hK.1 (kP_app.mp hP).1 (q0 := 0) rfl rfl) (fun U hU hW => ⟨by rw [hU]; exact (kP_app.mpr ⟨(kP_app.mp hP).1, kP_nil⟩), kK_warm hW hK, vD_sub (sbA _ (sb0 _)) hD⟩) ⟨rfl, rfl, Nat.le_of_ble_eq_true rfl, Nat.le_of_ble_eq_true rfl⟩ rfl hl.1 rfl (Nat.le_of_ble_eq_true rfl) dX8_hands_29 ⟨Nat.le_of_ble_eq_true rfl, Nat.le_of_ble_eq_true rfl⟩) (adr_app cO_adr rfl) (asc1 _ _) (ww' := cO g x (a 0) im te tr gu ab be (tb + 1) tn tf ++ (gW g a (ay 0) (ap 0) s1 s2 s3 ++ (yW g ay r ++ (pW g ap N f ++ [])))) (asc1 _ _) hP hD hS (fun H locs hP hD hS => ?_)
    exact ret_rwi hx hb hr hlk (by simp [c1]) (kP_eq (by simp [c1]) hP) hS dX8_hands_32
  · skip
    have c1 := b2i_1 c1
    refine lv_aload_n hx hb dX8_hands_14 rfl (lv_at hl 0 rfl) ?_
    refine kget hC.1 hK (kP_app.mp hP).1 0 rfl rfl in_8 0 (by decide) (gw_in m_282 rfl) rfl dX8_hands_15 ?_
    refine kget hC.1 hK (kP_app.mp (kP_app.mp hP).2).1 0 rfl rfl in_1 0 (by decide) (gw_in m_180 rfl) rfl dX8_hands_18 ?_
    refine lv_iload_n hx hb dX8_hands_21 rfl (lv_at hl 2 rfl) ?_
    refine ro_i (run_V (As := [.int (q)]) (rest := []) hC.1 ckX7_isPlayer (kX7_isPlayer l g ay r q) (gw_in m_356 rfl) (fb_ro _ _ _) (va_recv hK.1 (kP_app.mp (kP_app.mp (kP_app.mp hP).2).2).1 (q0 := 0) rfl rfl) (fun U hU hW => ⟨by rw [hU]; exact (kP_app.mp (kP_app.mp (kP_app.mp hP).2).2).1, kK_warm hW hK⟩) ⟨rfl, rfl, Nat.le_of_ble_eq_true rfl, Nat.le_of_ble_eq_true rfl⟩ rfl hl.1 rfl (Nat.le_of_ble_eq_true rfl) dX8_hands_22 ⟨Nat.le_of_ble_eq_true rfl, Nat.le_of_ble_eq_true rfl⟩) ?_
    refine lv_if_ne (tgt := 33) hx hb dX8_hands_25 (by decide) (fun c2 => ?_) (fun c2 => ?_)
    · skip
      have c2 := b2i_1 c2
      refine lv_aload_n hx hb dX8_hands_33 rfl (lv_at hl 0 rfl) ?_
      refine kget hC.1 hK (kP_app.mp hP).1 0 rfl rfl in_8 0 (by decide) (gw_in m_282 rfl) rfl dX8_hands_34 ?_
      refine kget hC.1 hK (kP_app.mp (kP_app.mp hP).2).1 0 rfl rfl in_1 0 (by decide) (gw_in m_180 rfl) rfl dX8_hands_37 ?_
      refine lv_iload_n hx hb dX8_hands_40 rfl (lv_at hl 1 rfl) ?_
      refine lv_iconst (v := 0) hx hb dX8_hands_41 rfl ?_
      refine ro_i (run_V (As := [.int (i), .int (0)]) (rest := []) hC.1 ckX7_fact (kX7_fact l g ay r i 0 hw) (gw_in m_589 rfl) (fb_ro _ _ _) (va_recv hK.1 (kP_app.mp (kP_app.mp (kP_app.mp hP).2).2).1 (q0 := 0) rfl rfl) (fun U hU hW => ⟨by rw [hU]; exact (kP_app.mp (kP_app.mp (kP_app.mp hP).2).2).1, kK_warm hW hK⟩) ⟨rfl, rfl, Nat.le_of_ble_eq_true rfl, Nat.le_of_ble_eq_true rfl⟩ rfl hl.1 rfl (Nat.le_of_ble_eq_true rfl) dX8_hands_42 ⟨Nat.le_of_ble_eq_true rfl, Nat.le_of_ble_eq_true rfl⟩) ?_
      refine lv_istore_n (lv' := [(3, .int (yFact r i 0)), (0, .ref (x 0)), (1, .int (i)), (2, .int (q))]) hx hb dX8_hands_45 rfl hl (by decide) rfl (fun ls hl => ?_)
      refine lv_iload_n hx hb dX8_hands_46 rfl (lv_at hl 0 rfl) ?_
      refine lv_iload_n hx hb dX8_hands_47 rfl (lv_at hl 3 rfl) ?_
      refine lv_icmp_eq (tgt := 65) hx hb dX8_hands_48 (by decide) (fun c3 => ?_) (fun c3 => ?_)
      · skip
        refine lv_aload_n hx hb dX8_hands_65 rfl (lv_at hl 1 rfl) ?_
        refine rw_i (run_V (As := []) (rest := []) hC.1 ckX8_no (kX8_no l g x (a 0) im te tr gu ab be tb tn tf) (gw_in m_575 rfl) (fb_rw _ _ _) (va_recv hK.1 (kP_app.mp hP).1 (q0 := 0) rfl rfl) (fun U hU hW => ⟨by rw [hU]; exact (kP_app.mpr ⟨(kP_app.mp hP).1, kP_nil⟩), kK_warm hW hK, vD_sub (sbA _ (sb0 _)) hD⟩) ⟨rfl, rfl, Nat.le_of_ble_eq_true rfl, Nat.le_of_ble_eq_true rfl⟩ rfl hl.1 rfl (Nat.le_of_ble_eq_true rfl) dX8_hands_66 ⟨Nat.le_of_ble_eq_true rfl, Nat.le_of_ble_eq_true rfl⟩) (adr_app cO_adr rfl) (asc1 _ _) (ww' := cO g x (a 0) im te tr gu ab be tb (tn + 1) tf ++ (gW g a (ay 0) (ap 0) s1 s2 s3 ++ (yW g ay r ++ (pW g ap N f ++ [])))) (asc1 _ _) hP hD hS (fun H locs hP hD hS => ?_)
        exact ret_rwi hx hb hr hlk (by simp [c1, c2, c3]) (kP_eq (by simp [c1, c2, c3]) hP) hS dX8_hands_69
      · skip
        refine lv_aload_n hx hb dX8_hands_51 rfl (lv_at hl 1 rfl) ?_
        refine kget hC.1 hK (kP_app.mp hP).1 0 rfl rfl in_8 0 (by decide) (gw_in m_282 rfl) rfl dX8_hands_52 ?_
        refine kget hC.1 hK (kP_app.mp (kP_app.mp hP).2).1 0 rfl rfl in_1 0 (by decide) (gw_in m_180 rfl) rfl dX8_hands_55 ?_
        refine lv_iload_n hx hb dX8_hands_58 rfl (lv_at hl 2 rfl) ?_
        refine ro_i (run_V (As := [.int (i)]) (rest := []) hC.1 ckX7_isBroken (kX7_isBroken l g ay r i hw.n6) (gw_in m_606 rfl) (fb_ro _ _ _) (va_recv hK.1 (kP_app.mp (kP_app.mp (kP_app.mp hP).2).2).1 (q0 := 0) rfl rfl) (fun U hU hW => ⟨by rw [hU]; exact (kP_app.mp (kP_app.mp (kP_app.mp hP).2).2).1, kK_warm hW hK⟩) ⟨rfl, rfl, Nat.le_of_ble_eq_true rfl, Nat.le_of_ble_eq_true rfl⟩ rfl hl.1 rfl (Nat.le_of_ble_eq_true rfl) dX8_hands_59 ⟨Nat.le_of_ble_eq_true rfl, Nat.le_of_ble_eq_true rfl⟩) ?_
        refine lv_if_eq (tgt := 70) hx hb dX8_hands_62 (by decide) (fun c4 => ?_) (fun c4 => ?_)
        · skip
          have c4 := b2i_0 c4
          refine lv_aload_n hx hb dX8_hands_70 rfl (lv_at hl 1 rfl) ?_
          refine kget hC.1 hK (kP_app.mp hP).1 0 rfl rfl in_8 0 (by decide) (gw_in m_282 rfl) rfl dX8_hands_71 ?_
          refine kget hC.1 hK (kP_app.mp (kP_app.mp hP).2).1 0 rfl rfl in_1 1 (by decide) (gw_in m_183 rfl) rfl dX8_hands_74 ?_
          refine lv_aload_n hx hb dX8_hands_77 rfl (lv_at hl 1 rfl) ?_
          refine kget hC.1 hK (kP_app.mp hP).1 0 rfl rfl in_8 0 (by decide) (gw_in m_282 rfl) rfl dX8_hands_78 ?_
          refine kget hC.1 hK (kP_app.mp (kP_app.mp hP).2).1 0 rfl rfl in_1 0 (by decide) (gw_in m_180 rfl) rfl dX8_hands_81 ?_
          have hP : kP g (pW g ap N f ++ (yW g ay r ++ (cO g x (a 0) im te tr gu ab be tb tn tf ++ (gW g a (ay 0) (ap 0) s1 s2 s3 ++ [])))) _ := kP_perm (((((pmA _ (pmA _ (pm_swap _ _ _))).trans (pmA _ (pm_swap _ _ _))).trans (pm_swap _ _ _)).trans (pmA _ (pmA _ (pm_swap _ _ _)))).trans (pmA _ (pm_swap _ _ _))) hP
          have hD : va_D _ (pW g ap N f ++ (yW g ay r ++ (cO g x (a 0) im te tr gu ab be tb tn tf ++ (gW g a (ay 0) (ap 0) s1 s2 s3 ++ [])))) := vD_perm (((((pmA _ (pmA _ (pm_swap _ _ _))).trans (pmA _ (pm_swap _ _ _))).trans (pm_swap _ _ _)).trans (pmA _ (pmA _ (pm_swap _ _ _)))).trans (pmA _ (pm_swap _ _ _))) hD
          refine rw_v (run_V (As := [.ref (ay 0)]) (rest := []) hC.1 ckX3_keep (kX3_keep l g ap N f ay r hN) (gw_in m_579 rfl) (fb_rw _ _ _) (va_recv hK.1 (kP_app.mp hP).1 (q0 := 0) rfl rfl) (fun U hU hW => ⟨by rw [hU]; exact (kP_app.mpr ⟨(kP_app.mp hP).1, (kP_app.mpr ⟨(kP_app.mp (kP_app.mp hP).2).1, kP_nil⟩)⟩), kK_warm hW hK, vD_sub (sbA _ (sbA _ (sb0 _))) hD⟩) ⟨rfl, rfl, Nat.le_of_ble_eq_true rfl, Nat.le_of_ble_eq_true rfl⟩ rfl hl.1 rfl (Nat.le_of_ble_eq_true rfl) dX8_hands_84 ⟨Nat.le_of_ble_eq_true rfl, Nat.le_of_ble_eq_true rfl⟩) (adr_app pW_adr (adr_app rfl rfl)) (asc2 _ _ _) (ww' := pW g ap (kpN N) (kpF r N f) ++ (yW g ay r ++ (cO g x (a 0) im te tr gu ab be tb tn tf ++ (gW g a (ay 0) (ap 0) s1 s2 s3 ++ [])))) (asc2 _ _ _) hP hD hS (fun H locs hP hD hS => ?_)
          refine lv_aload_n hx hb dX8_hands_87 rfl (lv_at hl 1 rfl) ?_
          refine kget hC.1 hK (kP_app.mp (kP_app.mp (kP_app.mp hP).2).2).1 0 rfl rfl in_8 0 (by decide) (gw_in m_282 rfl) rfl dX8_hands_88 ?_
          refine kget hC.1 hK (kP_app.mp (kP_app.mp (kP_app.mp (kP_app.mp hP).2).2).2).1 0 rfl rfl in_1 0 (by decide) (gw_in m_180 rfl) rfl dX8_hands_91 ?_
          refine lv_iload_n hx hb dX8_hands_94 rfl (lv_at hl 2 rfl) ?_
          refine lv_iload_n hx hb dX8_hands_95 rfl (lv_at hl 3 rfl) ?_
          have hP : kP g (yW g ay r ++ (pW g ap (kpN N) (kpF r N f) ++ (cO g x (a 0) im te tr gu ab be tb tn tf ++ (gW g a (ay 0) (ap 0) s1 s2 s3 ++ [])))) _ := kP_perm (pm_swap _ _ _) hP
          have hD : va_D _ (yW g ay r ++ (pW g ap (kpN N) (kpF r N f) ++ (cO g x (a 0) im te tr gu ab be tb tn tf ++ (gW g a (ay 0) (ap 0) s1 s2 s3 ++ [])))) := vD_perm (pm_swap _ _ _) hD
          refine rw_v (run_V (As := [.int (i), .int (q)]) (rest := []) hC.1 ckX7_handOver (kX7_handOver l g ay r i q hw.n6) (gw_in m_607 rfl) (fb_rw _ _ _) (va_recv hK.1 (kP_app.mp hP).1 (q0 := 0) rfl rfl) (fun U hU hW => ⟨by rw [hU]; exact (kP_app.mpr ⟨(kP_app.mp hP).1, kP_nil⟩), kK_warm hW hK, vD_sub (sbA _ (sb0 _)) hD⟩) ⟨rfl, rfl, Nat.le_of_ble_eq_true rfl, Nat.le_of_ble_eq_true rfl⟩ rfl hl.1 rfl (Nat.le_of_ble_eq_true rfl) dX8_hands_96 ⟨Nat.le_of_ble_eq_true rfl, Nat.le_of_ble_eq_true rfl⟩) (adr_app yW_adr rfl) (asc1 _ _) (ww' := yW g ay (if yNut r i && yPl r q then upd r (9 + cl i) q else r) ++ (pW g ap (kpN N) (kpF r N f) ++ (cO g x (a 0) im te tr gu ab be tb tn tf ++ (gW g a (ay 0) (ap 0) s1 s2 s3 ++ [])))) (asc1 _ _) hP hD hS (fun H locs hP hD hS => ?_)
          refine lv_iload_n hx hb dX8_hands_99 rfl (lv_at hl 0 rfl) ?_
          have hP : kP g (cO g x (a 0) im te tr gu ab be tb tn tf ++ (gW g a (ay 0) (ap 0) s1 s2 s3 ++ (yW g ay (if yNut r i && yPl r q then upd r (9 + cl i) q else r) ++ (pW g ap (kpN N) (kpF r N f) ++ [])))) _ := kP_perm ((((pmA _ (pm_swap _ _ _)).trans (pm_swap _ _ _)).trans (pmA _ (pmA _ (pm_swap _ _ _)))).trans (pmA _ (pm_swap _ _ _))) hP
          have hD : va_D _ (cO g x (a 0) im te tr gu ab be tb tn tf ++ (gW g a (ay 0) (ap 0) s1 s2 s3 ++ (yW g ay (if yNut r i && yPl r q then upd r (9 + cl i) q else r) ++ (pW g ap (kpN N) (kpF r N f) ++ [])))) := vD_perm ((((pmA _ (pm_swap _ _ _)).trans (pm_swap _ _ _)).trans (pmA _ (pmA _ (pm_swap _ _ _)))).trans (pmA _ (pm_swap _ _ _))) hD
          exact ret_rwi hx hb hr hlk (by simp [c1, c2, c3, c4]) (kP_eq (by simp [c1, c2, c3, c4]) hP) hS dX8_hands_100
        · skip
          have c4 := b2i_1 c4
          refine lv_aload_n hx hb dX8_hands_65 rfl (lv_at hl 1 rfl) ?_
          refine rw_i (run_V (As := []) (rest := []) hC.1 ckX8_no (kX8_no l g x (a 0) im te tr gu ab be tb tn tf) (gw_in m_575 rfl) (fb_rw _ _ _) (va_recv hK.1 (kP_app.mp hP).1 (q0 := 0) rfl rfl) (fun U hU hW => ⟨by rw [hU]; exact (kP_app.mpr ⟨(kP_app.mp hP).1, kP_nil⟩), kK_warm hW hK, vD_sub (sbA _ (sb0 _)) hD⟩) ⟨rfl, rfl, Nat.le_of_ble_eq_true rfl, Nat.le_of_ble_eq_true rfl⟩ rfl hl.1 rfl (Nat.le_of_ble_eq_true rfl) dX8_hands_66 ⟨Nat.le_of_ble_eq_true rfl, Nat.le_of_ble_eq_true rfl⟩) (adr_app cO_adr rfl) (asc1 _ _) (ww' := cO g x (a 0) im te tr gu ab be tb (tn + 1) tf ++ (gW g a (ay 0) (ap 0) s1 s2 s3 ++ (yW g ay r ++ (pW g ap N f ++ [])))) (asc1 _ _) hP hD hS (fun H locs hP hD hS => ?_)
          exact ret_rwi hx hb hr hlk (by simp [c1, c2, c3, c4]) (kP_eq (by simp [c1, c2, c3, c4]) hP) hS dX8_hands_69
    · skip
      have c2 := b2i_0 c2
      refine lv_aload_n hx hb dX8_hands_28 rfl (lv_at hl 0 rfl) ?_
      refine rw_i (run_V (As := []) (rest := []) hC.1 ckX8_bad (kX8_bad l g x (a 0) im te tr gu ab be tb tn tf) (gw_in m_320 rfl) (fb_rw _ _ _) (va_recv hK.1 (kP_app.mp hP).1 (q0 := 0) rfl rfl) (fun U hU hW => ⟨by rw [hU]; exact (kP_app.mpr ⟨(kP_app.mp hP).1, kP_nil⟩), kK_warm hW hK, vD_sub (sbA _ (sb0 _)) hD⟩) ⟨rfl, rfl, Nat.le_of_ble_eq_true rfl, Nat.le_of_ble_eq_true rfl⟩ rfl hl.1 rfl (Nat.le_of_ble_eq_true rfl) dX8_hands_29 ⟨Nat.le_of_ble_eq_true rfl, Nat.le_of_ble_eq_true rfl⟩) (adr_app cO_adr rfl) (asc1 _ _) (ww' := cO g x (a 0) im te tr gu ab be (tb + 1) tn tf ++ (gW g a (ay 0) (ap 0) s1 s2 s3 ++ (yW g ay r ++ (pW g ap N f ++ [])))) (asc1 _ _) hP hD hS (fun H locs hP hD hS => ?_)
      exact ret_rwi hx hb hr hlk (by simp [c1, c2]) (kP_eq (by simp [c1, c2]) hP) hS dX8_hands_32
set_option maxHeartbeats 4000000 in
set_option maxRecDepth 100000 in
theorem kX8_undo (l : Launch) (g : gG) (x : Nat → Nat) (im te tr gu : Nat) (ab be : Int64) (tb tn tf : Int32) (a ay ap : Nat → Nat) (s1 s2 s3 : Nat) (r : Nat → Int32) (N : Nat) (f : Nat → Int32)  (hN : N ≤ 8) : Met l yX8_undo (.code yX8_undo cX8_undo 1 (some .int) :: gw) (rmN 2) (va_Pc [.ref (x 0)] (rwPre g (cO g x (a 0) im te tr gu ab be tb tn tf ++ (gW g a (ay 0) (ap 0) s1 s2 s3 ++ (yW g ay r ++ (pW g ap N f ++ [])))))) (rwQi g (cO g x (a 0) im te tr gu ab be tb tn tf ++ (gW g a (ay 0) (ap 0) s1 s2 s3 ++ (yW g ay r ++ (pW g ap N f ++ [])))) (cO g x (a 0) im te tr gu ab be tb (if N = 0 then tn + 1 else tn) tf ++ (gW g a (ay 0) (ap 0) s1 s2 s3 ++ (yW g ay (if N = 0 then r else tkF r f (N - 1)) ++ (pW g ap (N - 1) f ++ [])))) (if N = 0 then -3 else tkF r f (N - 1) 0)) 0 0 (dm (cO g x (a 0) im te tr gu ab be tb tn tf ++ (gW g a (ay 0) (ap 0) s1 s2 s3 ++ (yW g ay r ++ (pW g ap N f ++ []))))) := by
  refine met_start (by decide) (Nat.le_of_ble_eq_true rfl) ?_
  intro pp ee ss mm bl mt cd hC hpre ls hl
  obtain ⟨⟨hx, hb, hml, hown, hts⟩, hr, hlk, hnm⟩ := id hC
  have hl : lv_has ls 1 [(0, .ref (x 0))] := hl
  obtain ⟨hP, hK, hD⟩ := hpre
  have hS : va_S (dm (cO g x (a 0) im te tr gu ab be tb tn tf ++ (gW g a (ay 0) (ap 0) s1 s2 s3 ++ (yW g ay r ++ (pW g ap N f ++ []))))) ss.heap ss.heap [] := va_S.rf
  have hD := vD_self hD
  refine lv_aload_n hx hb dX8_undo_0 rfl (lv_at hl 0 rfl) ?_
  refine kget hC.1 hK (kP_app.mp hP).1 0 rfl rfl in_8 0 (by decide) (gw_in m_282 rfl) rfl dX8_undo_1 ?_
  refine kget hC.1 hK (kP_app.mp (kP_app.mp hP).2).1 0 rfl rfl in_1 1 (by decide) (gw_in m_183 rfl) rfl dX8_undo_4 ?_
  refine kget hC.1 hK (kP_app.mp (kP_app.mp (kP_app.mp (kP_app.mp hP).2).2).2).1 0 rfl rfl in_3 0 (by decide) (gw_in m_150 rfl) rfl dX8_undo_7 ?_
  refine lv_if_ne (tgt := 18) hx hb dX8_undo_10 (by decide) (fun c1 => ?_) (fun c1 => ?_)
  · skip
    have hu0 : ¬ N = 0 := fun e => c1 (by rw [e]; rfl)
    refine lv_aload_n hx hb dX8_undo_18 rfl (lv_at hl 0 rfl) ?_
    obtain ⟨M, rfl⟩ : ∃ M, N = M + 1 := ⟨N - 1, by omega⟩
    have hP : kP g (cO g x (a 0) im te tr gu ab be tb tn tf ++ (gW g a (ay 0) (ap 0) s1 s2 s3 ++ (yW g ay r ++ (pW g ap (M + 1) f ++ [])))) _ := hP
    have hD : va_D _ (cO g x (a 0) im te tr gu ab be tb tn tf ++ (gW g a (ay 0) (ap 0) s1 s2 s3 ++ (yW g ay r ++ (pW g ap (M + 1) f ++ [])))) := hD
    refine kget hC.1 hK (kP_app.mp hP).1 0 rfl rfl in_8 0 (by decide) (gw_in m_282 rfl) rfl dX8_undo_19 ?_
    refine kget hC.1 hK (kP_app.mp (kP_app.mp hP).2).1 0 rfl rfl in_1 1 (by decide) (gw_in m_183 rfl) rfl dX8_undo_22 ?_
    refine lv_aload_n hx hb dX8_undo_25 rfl (lv_at hl 0 rfl) ?_
    refine kget hC.1 hK (kP_app.mp hP).1 0 rfl rfl in_8 0 (by decide) (gw_in m_282 rfl) rfl dX8_undo_26 ?_
    refine kget hC.1 hK (kP_app.mp (kP_app.mp hP).2).1 0 rfl rfl in_1 0 (by decide) (gw_in m_180 rfl) rfl dX8_undo_29 ?_
    have hP : kP g (pW g ap (M + 1) f ++ (yW g ay r ++ (cO g x (a 0) im te tr gu ab be tb tn tf ++ (gW g a (ay 0) (ap 0) s1 s2 s3 ++ [])))) _ := kP_perm (((((pmA _ (pmA _ (pm_swap _ _ _))).trans (pmA _ (pm_swap _ _ _))).trans (pm_swap _ _ _)).trans (pmA _ (pmA _ (pm_swap _ _ _)))).trans (pmA _ (pm_swap _ _ _))) hP
    have hD : va_D _ (pW g ap (M + 1) f ++ (yW g ay r ++ (cO g x (a 0) im te tr gu ab be tb tn tf ++ (gW g a (ay 0) (ap 0) s1 s2 s3 ++ [])))) := vD_perm (((((pmA _ (pmA _ (pm_swap _ _ _))).trans (pmA _ (pm_swap _ _ _))).trans (pm_swap _ _ _)).trans (pmA _ (pmA _ (pm_swap _ _ _)))).trans (pmA _ (pm_swap _ _ _))) hD
    refine rw_v (run_V (As := [.ref (ay 0)]) (rest := []) hC.1 ckX3_takeBack (kX3_takeBack l g ap M f ay r (by omega)) (gw_in m_615 rfl) (fb_rw _ _ _) (va_recv hK.1 (kP_app.mp hP).1 (q0 := 0) rfl rfl) (fun U hU hW => ⟨by rw [hU]; exact (kP_app.mpr ⟨(kP_app.mp hP).1, (kP_app.mpr ⟨(kP_app.mp (kP_app.mp hP).2).1, kP_nil⟩)⟩), kK_warm hW hK, vD_sub (sbA _ (sbA _ (sb0 _))) hD⟩) ⟨rfl, rfl, Nat.le_of_ble_eq_true rfl, Nat.le_of_ble_eq_true rfl⟩ rfl hl.1 rfl (Nat.le_of_ble_eq_true rfl) dX8_undo_32 ⟨Nat.le_of_ble_eq_true rfl, Nat.le_of_ble_eq_true rfl⟩) (adr_app pW_adr (adr_app yW_adr rfl)) (asc2 _ _ _) (ww' := pW g ap M f ++ (yW g ay (tkF r f M) ++ (cO g x (a 0) im te tr gu ab be tb tn tf ++ (gW g a (ay 0) (ap 0) s1 s2 s3 ++ [])))) (asc2 _ _ _) hP hD hS (fun H locs hP hD hS => ?_)
    refine lv_aload_n hx hb dX8_undo_35 rfl (lv_at hl 0 rfl) ?_
    refine kget hC.1 hK (kP_app.mp (kP_app.mp (kP_app.mp hP).2).2).1 0 rfl rfl in_8 0 (by decide) (gw_in m_282 rfl) rfl dX8_undo_36 ?_
    refine kget hC.1 hK (kP_app.mp (kP_app.mp (kP_app.mp (kP_app.mp hP).2).2).2).1 0 rfl rfl in_1 0 (by decide) (gw_in m_180 rfl) rfl dX8_undo_39 ?_
    refine kget hC.1 hK (kP_app.mp (kP_app.mp hP).2).1 0 rfl rfl in_7 2 (by decide) (gw_in m_107 rfl) rfl dX8_undo_42 ?_
    have hP : kP g (cO g x (a 0) im te tr gu ab be tb tn tf ++ (gW g a (ay 0) (ap 0) s1 s2 s3 ++ (yW g ay (tkF r f M) ++ (pW g ap M f ++ [])))) _ := kP_perm (((((pmA _ (pm_swap _ _ _)).trans (pm_swap _ _ _)).trans (pmA _ (pmA _ (pm_swap _ _ _)))).trans (pmA _ (pm_swap _ _ _))).trans (pmA _ (pmA _ (pm_swap _ _ _)))) hP
    have hD : va_D _ (cO g x (a 0) im te tr gu ab be tb tn tf ++ (gW g a (ay 0) (ap 0) s1 s2 s3 ++ (yW g ay (tkF r f M) ++ (pW g ap M f ++ [])))) := vD_perm (((((pmA _ (pm_swap _ _ _)).trans (pm_swap _ _ _)).trans (pmA _ (pmA _ (pm_swap _ _ _)))).trans (pmA _ (pm_swap _ _ _))).trans (pmA _ (pmA _ (pm_swap _ _ _)))) hD
    exact ret_rwi hx hb hr hlk (by simp [hu0]) (kP_eq (by simp [hu0]) hP) hS dX8_undo_45
  · skip
    have hu0 : N = 0 := by rw [show (0 : Int32) = nI 0 from rfl, nI_eq (by omega) (by omega)] at c1; exact c1
    refine lv_aload_n hx hb dX8_undo_13 rfl (lv_at hl 0 rfl) ?_
    refine rw_i (run_V (As := []) (rest := []) hC.1 ckX8_no (kX8_no l g x (a 0) im te tr gu ab be tb tn tf) (gw_in m_575 rfl) (fb_rw _ _ _) (va_recv hK.1 (kP_app.mp hP).1 (q0 := 0) rfl rfl) (fun U hU hW => ⟨by rw [hU]; exact (kP_app.mpr ⟨(kP_app.mp hP).1, kP_nil⟩), kK_warm hW hK, vD_sub (sbA _ (sb0 _)) hD⟩) ⟨rfl, rfl, Nat.le_of_ble_eq_true rfl, Nat.le_of_ble_eq_true rfl⟩ rfl hl.1 rfl (Nat.le_of_ble_eq_true rfl) dX8_undo_14 ⟨Nat.le_of_ble_eq_true rfl, Nat.le_of_ble_eq_true rfl⟩) (adr_app cO_adr rfl) (asc1 _ _) (ww' := cO g x (a 0) im te tr gu ab be tb (tn + 1) tf ++ (gW g a (ay 0) (ap 0) s1 s2 s3 ++ (yW g ay r ++ (pW g ap N f ++ [])))) (asc1 _ _) hP hD hS (fun H locs hP hD hS => ?_)
    exact ret_rwi hx hb hr hlk (by simp [hu0]) (kP_eq (by simp [hu0]) hP) hS dX8_undo_17
set_option maxHeartbeats 4000000 in
set_option maxRecDepth 100000 in
theorem kX8_of (l : Launch) (g : gG) (x : Nat → Nat) (im te tr gu : Nat) (ab be : Int64) (tb tn tf : Int32) (a ay : Nat → Nat) (ps s1 s2 s3 : Nat) (r : Nat → Int32) (i w : Int32) (hw : Wf r) : Met l yX8_of (.code yX8_of cX8_of 3 (some .int) :: gw) (rmN 4) (va_Pc [.ref (x 0), .int (i), .int (w)] (rwPre g (cO g x (a 0) im te tr gu ab be tb tn tf ++ (gW g a (ay 0) ps s1 s2 s3 ++ (yW g ay r ++ []))))) (rwQi g (cO g x (a 0) im te tr gu ab be tb tn tf ++ (gW g a (ay 0) ps s1 s2 s3 ++ (yW g ay r ++ []))) (cO g x (a 0) im te tr gu ab be (if (yNut r i && wth w 0 7) = true then tb else tb + 1) tn tf ++ (gW g a (ay 0) ps s1 s2 s3 ++ (yW g ay r ++ []))) (if (yNut r i && wth w 0 7) = true then yFact r i w else -2)) 0 0 (dm (cO g x (a 0) im te tr gu ab be tb tn tf ++ (gW g a (ay 0) ps s1 s2 s3 ++ (yW g ay r ++ [])))) := by
  refine met_start (by decide) (Nat.le_of_ble_eq_true rfl) ?_
  intro pp ee ss mm bl mt cd hC hpre ls hl
  obtain ⟨⟨hx, hb, hml, hown, hts⟩, hr, hlk, hnm⟩ := id hC
  have hl : lv_has ls 3 [(0, .ref (x 0)), (1, .int (i)), (2, .int (w))] := hl
  obtain ⟨hP, hK, hD⟩ := hpre
  have hS : va_S (dm (cO g x (a 0) im te tr gu ab be tb tn tf ++ (gW g a (ay 0) ps s1 s2 s3 ++ (yW g ay r ++ [])))) ss.heap ss.heap [] := va_S.rf
  have hD := vD_self hD
  refine lv_aload_n hx hb dX8_of_0 rfl (lv_at hl 0 rfl) ?_
  refine kget hC.1 hK (kP_app.mp hP).1 0 rfl rfl in_8 0 (by decide) (gw_in m_282 rfl) rfl dX8_of_1 ?_
  refine kget hC.1 hK (kP_app.mp (kP_app.mp hP).2).1 0 rfl rfl in_1 0 (by decide) (gw_in m_180 rfl) rfl dX8_of_4 ?_
  refine lv_iload_n hx hb dX8_of_7 rfl (lv_at hl 1 rfl) ?_
  refine ro_i (run_V (As := [.int (i)]) (rest := []) hC.1 ckX7_isNut (kX7_isNut l g ay r i) (gw_in m_573 rfl) (fb_ro _ _ _) (va_recv hK.1 (kP_app.mp (kP_app.mp (kP_app.mp hP).2).2).1 (q0 := 0) rfl rfl) (fun U hU hW => ⟨by rw [hU]; exact (kP_app.mp (kP_app.mp (kP_app.mp hP).2).2).1, kK_warm hW hK⟩) ⟨rfl, rfl, Nat.le_of_ble_eq_true rfl, Nat.le_of_ble_eq_true rfl⟩ rfl hl.1 rfl (Nat.le_of_ble_eq_true rfl) dX8_of_8 ⟨Nat.le_of_ble_eq_true rfl, Nat.le_of_ble_eq_true rfl⟩) ?_
  refine lv_if_eq (tgt := 24) hx hb dX8_of_11 (by decide) (fun c1 => ?_) (fun c1 => ?_)
  · skip
    have c1 := b2i_0 c1
    refine lv_aload_n hx hb dX8_of_24 rfl (lv_at hl 0 rfl) ?_
    refine rw_i (run_V (As := []) (rest := []) hC.1 ckX8_bad (kX8_bad l g x (a 0) im te tr gu ab be tb tn tf) (gw_in m_320 rfl) (fb_rw _ _ _) (va_recv hK.1 (kP_app.mp hP).1 (q0 := 0) rfl rfl) (fun U hU hW => ⟨by rw [hU]; exact (kP_app.mpr ⟨(kP_app.mp hP).1, kP_nil⟩), kK_warm hW hK, vD_sub (sbA _ (sb0 _)) hD⟩) ⟨rfl, rfl, Nat.le_of_ble_eq_true rfl, Nat.le_of_ble_eq_true rfl⟩ rfl hl.1 rfl (Nat.le_of_ble_eq_true rfl) dX8_of_25 ⟨Nat.le_of_ble_eq_true rfl, Nat.le_of_ble_eq_true rfl⟩) (adr_app cO_adr rfl) (asc1 _ _) (ww' := cO g x (a 0) im te tr gu ab be (tb + 1) tn tf ++ (gW g a (ay 0) ps s1 s2 s3 ++ (yW g ay r ++ []))) (asc1 _ _) hP hD hS (fun H locs hP hD hS => ?_)
    exact ret_rwi hx hb hr hlk (by simp only [c1, if_true, if_false, eq_self, Bool.false_eq_true, Bool.and_true, Bool.true_and, Bool.and_false, Bool.false_and]) (kP_eq (by simp only [c1, if_true, if_false, eq_self, Bool.false_eq_true, Bool.and_true, Bool.true_and, Bool.and_false, Bool.false_and]) hP) hS dX8_of_28
  · skip
    have c1 := b2i_1 c1
    refine lv_iload_n hx hb dX8_of_14 rfl (lv_at hl 2 rfl) ?_
    refine lv_iconst (v := 0) hx hb dX8_of_15 rfl ?_
    refine lv_bipush (v := 7) hx hb dX8_of_16 rfl ?_
    refine ro_i (run_S (As := [.int (w), .int (0), .int (7)]) (rest := []) hC.1 ckX8_within (kX8_within l w 0 7) (gw_in m_317 rfl) (fb_nil _) (fun _ _ _ => trivial) ⟨rfl, rfl, Nat.le_of_ble_eq_true rfl, Nat.le_of_ble_eq_true rfl⟩ rfl hl.1 rfl (Nat.le_of_ble_eq_true rfl) dX8_of_18 ⟨Nat.le_of_ble_eq_true rfl, Nat.le_of_ble_eq_true rfl⟩) ?_
    refine lv_if_ne (tgt := 29) hx hb dX8_of_21 (by decide) (fun c2 => ?_) (fun c2 => ?_)
    · skip
      have c2 := b2i_1 c2
      refine lv_aload_n hx hb dX8_of_29 rfl (lv_at hl 0 rfl) ?_
      refine kget hC.1 hK (kP_app.mp hP).1 0 rfl rfl in_8 0 (by decide) (gw_in m_282 rfl) rfl dX8_of_30 ?_
      refine kget hC.1 hK (kP_app.mp (kP_app.mp hP).2).1 0 rfl rfl in_1 0 (by decide) (gw_in m_180 rfl) rfl dX8_of_33 ?_
      refine lv_iload_n hx hb dX8_of_36 rfl (lv_at hl 1 rfl) ?_
      refine lv_iload_n hx hb dX8_of_37 rfl (lv_at hl 2 rfl) ?_
      refine ro_i (run_V (As := [.int (i), .int (w)]) (rest := []) hC.1 ckX7_fact (kX7_fact l g ay r i w hw) (gw_in m_589 rfl) (fb_ro _ _ _) (va_recv hK.1 (kP_app.mp (kP_app.mp (kP_app.mp hP).2).2).1 (q0 := 0) rfl rfl) (fun U hU hW => ⟨by rw [hU]; exact (kP_app.mp (kP_app.mp (kP_app.mp hP).2).2).1, kK_warm hW hK⟩) ⟨rfl, rfl, Nat.le_of_ble_eq_true rfl, Nat.le_of_ble_eq_true rfl⟩ rfl hl.1 rfl (Nat.le_of_ble_eq_true rfl) dX8_of_38 ⟨Nat.le_of_ble_eq_true rfl, Nat.le_of_ble_eq_true rfl⟩) ?_
      exact ret_rwi hx hb hr hlk (by simp only [c1, c2, if_true, if_false, eq_self, Bool.false_eq_true, Bool.and_true, Bool.true_and, Bool.and_false, Bool.false_and]) (kP_eq (by simp only [c1, c2, if_true, if_false, eq_self, Bool.false_eq_true, Bool.and_true, Bool.true_and, Bool.and_false, Bool.false_and]) hP) hS dX8_of_41
    · skip
      have c2 := b2i_0 c2
      refine lv_aload_n hx hb dX8_of_24 rfl (lv_at hl 0 rfl) ?_
      refine rw_i (run_V (As := []) (rest := []) hC.1 ckX8_bad (kX8_bad l g x (a 0) im te tr gu ab be tb tn tf) (gw_in m_320 rfl) (fb_rw _ _ _) (va_recv hK.1 (kP_app.mp hP).1 (q0 := 0) rfl rfl) (fun U hU hW => ⟨by rw [hU]; exact (kP_app.mpr ⟨(kP_app.mp hP).1, kP_nil⟩), kK_warm hW hK, vD_sub (sbA _ (sb0 _)) hD⟩) ⟨rfl, rfl, Nat.le_of_ble_eq_true rfl, Nat.le_of_ble_eq_true rfl⟩ rfl hl.1 rfl (Nat.le_of_ble_eq_true rfl) dX8_of_25 ⟨Nat.le_of_ble_eq_true rfl, Nat.le_of_ble_eq_true rfl⟩) (adr_app cO_adr rfl) (asc1 _ _) (ww' := cO g x (a 0) im te tr gu ab be (tb + 1) tn tf ++ (gW g a (ay 0) ps s1 s2 s3 ++ (yW g ay r ++ []))) (asc1 _ _) hP hD hS (fun H locs hP hD hS => ?_)
      exact ret_rwi hx hb hr hlk (by simp only [c1, c2, if_true, if_false, eq_self, Bool.false_eq_true, Bool.and_true, Bool.true_and, Bool.and_false, Bool.false_and]) (kP_eq (by simp only [c1, c2, if_true, if_false, eq_self, Bool.false_eq_true, Bool.and_true, Bool.true_and, Bool.and_false, Bool.false_and]) hP) hS dX8_of_28
set_option maxHeartbeats 4000000 in
set_option maxRecDepth 100000 in
theorem kX8_who (l : Launch) (g : gG) (x : Nat → Nat) (im te tr gu : Nat) (ab be : Int64) (tb tn tf : Int32) (a ay : Nat → Nat) (ps s1 s2 s3 : Nat) (r : Nat → Int32) (q w : Int32) (hw : Wf r) : Met l yX8_who (.code yX8_who cX8_who 3 (some .int) :: gw) (rmN 4) (va_Pc [.ref (x 0), .int (q), .int (w)] (rwPre g (cO g x (a 0) im te tr gu ab be tb tn tf ++ (gW g a (ay 0) ps s1 s2 s3 ++ (yW g ay r ++ []))))) (rwQi g (cO g x (a 0) im te tr gu ab be tb tn tf ++ (gW g a (ay 0) ps s1 s2 s3 ++ (yW g ay r ++ []))) (cO g x (a 0) im te tr gu ab be (if (yPl r q && wth w 0 3) = true then tb else tb + 1) tn tf ++ (gW g a (ay 0) ps s1 s2 s3 ++ (yW g ay r ++ []))) (if (yPl r q && wth w 0 3) = true then yPF r q w else -2)) 0 0 (dm (cO g x (a 0) im te tr gu ab be tb tn tf ++ (gW g a (ay 0) ps s1 s2 s3 ++ (yW g ay r ++ [])))) := by
  refine met_start (by decide) (Nat.le_of_ble_eq_true rfl) ?_
  intro pp ee ss mm bl mt cd hC hpre ls hl
  obtain ⟨⟨hx, hb, hml, hown, hts⟩, hr, hlk, hnm⟩ := id hC
  have hl : lv_has ls 3 [(0, .ref (x 0)), (1, .int (q)), (2, .int (w))] := hl
  obtain ⟨hP, hK, hD⟩ := hpre
  have hS : va_S (dm (cO g x (a 0) im te tr gu ab be tb tn tf ++ (gW g a (ay 0) ps s1 s2 s3 ++ (yW g ay r ++ [])))) ss.heap ss.heap [] := va_S.rf
  have hD := vD_self hD
  refine lv_aload_n hx hb dX8_who_0 rfl (lv_at hl 0 rfl) ?_
  refine kget hC.1 hK (kP_app.mp hP).1 0 rfl rfl in_8 0 (by decide) (gw_in m_282 rfl) rfl dX8_who_1 ?_
  refine kget hC.1 hK (kP_app.mp (kP_app.mp hP).2).1 0 rfl rfl in_1 0 (by decide) (gw_in m_180 rfl) rfl dX8_who_4 ?_
  refine lv_iload_n hx hb dX8_who_7 rfl (lv_at hl 1 rfl) ?_
  refine ro_i (run_V (As := [.int (q)]) (rest := []) hC.1 ckX7_isPlayer (kX7_isPlayer l g ay r q) (gw_in m_356 rfl) (fb_ro _ _ _) (va_recv hK.1 (kP_app.mp (kP_app.mp (kP_app.mp hP).2).2).1 (q0 := 0) rfl rfl) (fun U hU hW => ⟨by rw [hU]; exact (kP_app.mp (kP_app.mp (kP_app.mp hP).2).2).1, kK_warm hW hK⟩) ⟨rfl, rfl, Nat.le_of_ble_eq_true rfl, Nat.le_of_ble_eq_true rfl⟩ rfl hl.1 rfl (Nat.le_of_ble_eq_true rfl) dX8_who_8 ⟨Nat.le_of_ble_eq_true rfl, Nat.le_of_ble_eq_true rfl⟩) ?_
  refine lv_if_eq (tgt := 23) hx hb dX8_who_11 (by decide) (fun c1 => ?_) (fun c1 => ?_)
  · skip
    have c1 := b2i_0 c1
    refine lv_aload_n hx hb dX8_who_23 rfl (lv_at hl 0 rfl) ?_
    refine rw_i (run_V (As := []) (rest := []) hC.1 ckX8_bad (kX8_bad l g x (a 0) im te tr gu ab be tb tn tf) (gw_in m_320 rfl) (fb_rw _ _ _) (va_recv hK.1 (kP_app.mp hP).1 (q0 := 0) rfl rfl) (fun U hU hW => ⟨by rw [hU]; exact (kP_app.mpr ⟨(kP_app.mp hP).1, kP_nil⟩), kK_warm hW hK, vD_sub (sbA _ (sb0 _)) hD⟩) ⟨rfl, rfl, Nat.le_of_ble_eq_true rfl, Nat.le_of_ble_eq_true rfl⟩ rfl hl.1 rfl (Nat.le_of_ble_eq_true rfl) dX8_who_24 ⟨Nat.le_of_ble_eq_true rfl, Nat.le_of_ble_eq_true rfl⟩) (adr_app cO_adr rfl) (asc1 _ _) (ww' := cO g x (a 0) im te tr gu ab be (tb + 1) tn tf ++ (gW g a (ay 0) ps s1 s2 s3 ++ (yW g ay r ++ []))) (asc1 _ _) hP hD hS (fun H locs hP hD hS => ?_)
    exact ret_rwi hx hb hr hlk (by simp only [c1, if_true, if_false, eq_self, Bool.false_eq_true, Bool.and_true, Bool.true_and, Bool.and_false, Bool.false_and]) (kP_eq (by simp only [c1, if_true, if_false, eq_self, Bool.false_eq_true, Bool.and_true, Bool.true_and, Bool.and_false, Bool.false_and]) hP) hS dX8_who_27
  · skip
    have c1 := b2i_1 c1
    refine lv_iload_n hx hb dX8_who_14 rfl (lv_at hl 2 rfl) ?_
    refine lv_iconst (v := 0) hx hb dX8_who_15 rfl ?_
    refine lv_iconst (v := 3) hx hb dX8_who_16 rfl ?_
    refine ro_i (run_S (As := [.int (w), .int (0), .int (3)]) (rest := []) hC.1 ckX8_within (kX8_within l w 0 3) (gw_in m_317 rfl) (fb_nil _) (fun _ _ _ => trivial) ⟨rfl, rfl, Nat.le_of_ble_eq_true rfl, Nat.le_of_ble_eq_true rfl⟩ rfl hl.1 rfl (Nat.le_of_ble_eq_true rfl) dX8_who_17 ⟨Nat.le_of_ble_eq_true rfl, Nat.le_of_ble_eq_true rfl⟩) ?_
    refine lv_if_ne (tgt := 28) hx hb dX8_who_20 (by decide) (fun c2 => ?_) (fun c2 => ?_)
    · skip
      have c2 := b2i_1 c2
      refine lv_aload_n hx hb dX8_who_28 rfl (lv_at hl 0 rfl) ?_
      refine kget hC.1 hK (kP_app.mp hP).1 0 rfl rfl in_8 0 (by decide) (gw_in m_282 rfl) rfl dX8_who_29 ?_
      refine kget hC.1 hK (kP_app.mp (kP_app.mp hP).2).1 0 rfl rfl in_1 0 (by decide) (gw_in m_180 rfl) rfl dX8_who_32 ?_
      refine lv_iload_n hx hb dX8_who_35 rfl (lv_at hl 1 rfl) ?_
      refine lv_iload_n hx hb dX8_who_36 rfl (lv_at hl 2 rfl) ?_
      refine ro_i (run_V (As := [.int (q), .int (w)]) (rest := []) hC.1 ckX7_playerFact (kX7_playerFact l g ay r q w hw) (gw_in m_627 rfl) (fb_ro _ _ _) (va_recv hK.1 (kP_app.mp (kP_app.mp (kP_app.mp hP).2).2).1 (q0 := 0) rfl rfl) (fun U hU hW => ⟨by rw [hU]; exact (kP_app.mp (kP_app.mp (kP_app.mp hP).2).2).1, kK_warm hW hK⟩) ⟨rfl, rfl, Nat.le_of_ble_eq_true rfl, Nat.le_of_ble_eq_true rfl⟩ rfl hl.1 rfl (Nat.le_of_ble_eq_true rfl) dX8_who_37 ⟨Nat.le_of_ble_eq_true rfl, Nat.le_of_ble_eq_true rfl⟩) ?_
      exact ret_rwi hx hb hr hlk (by simp only [c1, c2, if_true, if_false, eq_self, Bool.false_eq_true, Bool.and_true, Bool.true_and, Bool.and_false, Bool.false_and]) (kP_eq (by simp only [c1, c2, if_true, if_false, eq_self, Bool.false_eq_true, Bool.and_true, Bool.true_and, Bool.and_false, Bool.false_and]) hP) hS dX8_who_40
    · skip
      have c2 := b2i_0 c2
      refine lv_aload_n hx hb dX8_who_23 rfl (lv_at hl 0 rfl) ?_
      refine rw_i (run_V (As := []) (rest := []) hC.1 ckX8_bad (kX8_bad l g x (a 0) im te tr gu ab be tb tn tf) (gw_in m_320 rfl) (fb_rw _ _ _) (va_recv hK.1 (kP_app.mp hP).1 (q0 := 0) rfl rfl) (fun U hU hW => ⟨by rw [hU]; exact (kP_app.mpr ⟨(kP_app.mp hP).1, kP_nil⟩), kK_warm hW hK, vD_sub (sbA _ (sb0 _)) hD⟩) ⟨rfl, rfl, Nat.le_of_ble_eq_true rfl, Nat.le_of_ble_eq_true rfl⟩ rfl hl.1 rfl (Nat.le_of_ble_eq_true rfl) dX8_who_24 ⟨Nat.le_of_ble_eq_true rfl, Nat.le_of_ble_eq_true rfl⟩) (adr_app cO_adr rfl) (asc1 _ _) (ww' := cO g x (a 0) im te tr gu ab be (tb + 1) tn tf ++ (gW g a (ay 0) ps s1 s2 s3 ++ (yW g ay r ++ []))) (asc1 _ _) hP hD hS (fun H locs hP hD hS => ?_)
      exact ret_rwi hx hb hr hlk (by simp only [c1, c2, if_true, if_false, eq_self, Bool.false_eq_true, Bool.and_true, Bool.true_and, Bool.and_false, Bool.false_and]) (kP_eq (by simp only [c1, c2, if_true, if_false, eq_self, Bool.false_eq_true, Bool.and_true, Bool.true_and, Bool.and_false, Bool.false_and]) hP) hS dX8_who_27
