theorem ckX2_fits : ckS yX2_fits cX2_fits 9 (some .boolean) 5 := ⟨(gw_in m_772 rfl), (gw_in m_70 rfl), (gw_in m_771 rfl), by decide +kernel, by decide +kernel, by decide +kernel⟩
theorem ckX2_allFit : ckS yX2_allFit cX2_allFit 6 (some .boolean) 4 := ⟨(gw_in m_760 rfl), (gw_in m_70 rfl), (gw_in m_759 rfl), by decide +kernel, by decide +kernel, by decide +kernel⟩
set_option maxHeartbeats 4000000 in
set_option maxRecDepth 100000 in
theorem kX2_fits_0 (l : Launch) (g : gG) (a : Nat → Nat) (r : Nat → Int32) (b : Nat → Nat) (N : Nat) (lim : Int32) (f : Nat → Int32) (n : Nat) (c : Int32) (hw : Wf r) (hn : n < 6) (hc : bd c 0 9) (hf : bd (f (6 * n + 3)) 0 44) : Met l yX2_fits (.code yX2_fits cX2_fits 9 (some .boolean) :: gw) (rmN 4) (va_Pc [.int (0), .ref (a 0), .ref (b 0), .int (nI n), .int (c)] (roPre g (yW g a r ++ (rW g b N lim f ++ [])))) (vp_Si (fun v => v = (b2i (fit0 r f c n)))) 0 0 (fun _ => False) := by
  refine met_start (by decide) (Nat.le_of_ble_eq_true rfl) ?_
  intro pp ee ss mm bl mt cd hC hpre ls hl
  obtain ⟨⟨hx, hb, hml, hown, hts⟩, hr, hlk, hnm⟩ := id hC
  have hl : lv_has ls 9 [(0, .int (0)), (1, .ref (a 0)), (2, .ref (b 0)), (3, .int (nI n)), (4, .int (c))] := hl
  obtain ⟨hP, hK⟩ := hpre
  refine lv_aload_n hx hb dX2_fits_0 rfl (lv_at hl 2 rfl) ?_
  refine lv_iload_n hx hb dX2_fits_1 rfl (lv_at hl 3 rfl) ?_
  refine lv_iconst (v := 1) hx hb dX2_fits_2 rfl ?_
  refine ro_i (run_V (As := [.int (nI n), .int (1)]) (rest := []) hC.1 ckX4_at (kX4_at l g b N lim f (nI n) 1) (gw_in m_765 rfl) (fb_ro _ _ _) (va_recv hK.1 (kP_app.mp (kP_app.mp hP).2).1 (q0 := 0) rfl rfl) (fun U hU hW => ⟨by rw [hU]; exact (kP_app.mp (kP_app.mp hP).2).1, kK_warm hW hK⟩) ⟨rfl, rfl, Nat.le_of_ble_eq_true rfl, Nat.le_of_ble_eq_true rfl⟩ rfl hl.1 rfl (Nat.le_of_ble_eq_true rfl) dX2_fits_3 ⟨Nat.le_of_ble_eq_true rfl, Nat.le_of_ble_eq_true rfl⟩) ?_
  refine top_i (x := atF f (nI n) 1) (y := f (6 * n + 1)) (show atF f (nI n) (nI 1) = _ from atF_nI hn (by omega)) ?_
  refine lv_istore (lv' := [(5, .int (f (6 * n + 1))), (0, .int (0)), (1, .ref (a 0)), (2, .ref (b 0)), (3, .int (nI n)), (4, .int (c))]) hx hb dX2_fits_6 hl (by decide) rfl (fun ls hl => ?_)
  refine lv_aload_n hx hb dX2_fits_8 rfl (lv_at hl 3 rfl) ?_
  refine lv_iload_n hx hb dX2_fits_9 rfl (lv_at hl 4 rfl) ?_
  refine lv_iconst (v := 2) hx hb dX2_fits_10 rfl ?_
  refine ro_i (run_V (As := [.int (nI n), .int (2)]) (rest := []) hC.1 ckX4_at (kX4_at l g b N lim f (nI n) 2) (gw_in m_765 rfl) (fb_ro _ _ _) (va_recv hK.1 (kP_app.mp (kP_app.mp hP).2).1 (q0 := 0) rfl rfl) (fun U hU hW => ⟨by rw [hU]; exact (kP_app.mp (kP_app.mp hP).2).1, kK_warm hW hK⟩) ⟨rfl, rfl, Nat.le_of_ble_eq_true rfl, Nat.le_of_ble_eq_true rfl⟩ rfl hl.1 rfl (Nat.le_of_ble_eq_true rfl) dX2_fits_11 ⟨Nat.le_of_ble_eq_true rfl, Nat.le_of_ble_eq_true rfl⟩) ?_
  refine top_i (x := atF f (nI n) 2) (y := f (6 * n + 2)) (show atF f (nI n) (nI 2) = _ from atF_nI hn (by omega)) ?_
  refine lv_istore (lv' := [(6, .int (f (6 * n + 2))), (5, .int (f (6 * n + 1))), (0, .int (0)), (1, .ref (a 0)), (2, .ref (b 0)), (3, .int (nI n)), (4, .int (c))]) hx hb dX2_fits_14 hl (by decide) rfl (fun ls hl => ?_)
  refine lv_aload_n hx hb dX2_fits_16 rfl (lv_at hl 4 rfl) ?_
  refine lv_iload_n hx hb dX2_fits_17 rfl (lv_at hl 5 rfl) ?_
  refine lv_iconst (v := 3) hx hb dX2_fits_18 rfl ?_
  refine ro_i (run_V (As := [.int (nI n), .int (3)]) (rest := []) hC.1 ckX4_at (kX4_at l g b N lim f (nI n) 3) (gw_in m_765 rfl) (fb_ro _ _ _) (va_recv hK.1 (kP_app.mp (kP_app.mp hP).2).1 (q0 := 0) rfl rfl) (fun U hU hW => ⟨by rw [hU]; exact (kP_app.mp (kP_app.mp hP).2).1, kK_warm hW hK⟩) ⟨rfl, rfl, Nat.le_of_ble_eq_true rfl, Nat.le_of_ble_eq_true rfl⟩ rfl hl.1 rfl (Nat.le_of_ble_eq_true rfl) dX2_fits_19 ⟨Nat.le_of_ble_eq_true rfl, Nat.le_of_ble_eq_true rfl⟩) ?_
  refine top_i (x := atF f (nI n) 3) (y := f (6 * n + 3)) (show atF f (nI n) (nI 3) = _ from atF_nI hn (by omega)) ?_
  refine lv_istore (lv' := [(7, .int (f (6 * n + 3))), (6, .int (f (6 * n + 2))), (5, .int (f (6 * n + 1))), (0, .int (0)), (1, .ref (a 0)), (2, .ref (b 0)), (3, .int (nI n)), (4, .int (c))]) hx hb dX2_fits_22 hl (by decide) rfl (fun ls hl => ?_)
  refine lv_aload_n hx hb dX2_fits_24 rfl (lv_at hl 5 rfl) ?_
  refine lv_iload_n hx hb dX2_fits_25 rfl (lv_at hl 6 rfl) ?_
  refine lv_iconst (v := 4) hx hb dX2_fits_26 rfl ?_
  refine ro_i (run_V (As := [.int (nI n), .int (4)]) (rest := []) hC.1 ckX4_at (kX4_at l g b N lim f (nI n) 4) (gw_in m_765 rfl) (fb_ro _ _ _) (va_recv hK.1 (kP_app.mp (kP_app.mp hP).2).1 (q0 := 0) rfl rfl) (fun U hU hW => ⟨by rw [hU]; exact (kP_app.mp (kP_app.mp hP).2).1, kK_warm hW hK⟩) ⟨rfl, rfl, Nat.le_of_ble_eq_true rfl, Nat.le_of_ble_eq_true rfl⟩ rfl hl.1 rfl (Nat.le_of_ble_eq_true rfl) dX2_fits_27 ⟨Nat.le_of_ble_eq_true rfl, Nat.le_of_ble_eq_true rfl⟩) ?_
  refine top_i (x := atF f (nI n) 4) (y := f (6 * n + 4)) (show atF f (nI n) (nI 4) = _ from atF_nI hn (by omega)) ?_
  refine lv_istore (lv' := [(8, .int (f (6 * n + 4))), (7, .int (f (6 * n + 3))), (6, .int (f (6 * n + 2))), (5, .int (f (6 * n + 1))), (0, .int (0)), (1, .ref (a 0)), (2, .ref (b 0)), (3, .int (nI n)), (4, .int (c))]) hx hb dX2_fits_30 hl (by decide) rfl (fun ls hl => ?_)
  refine lv_iload_n hx hb dX2_fits_32 rfl (lv_at hl 4 rfl) ?_
  refine lv_lookup (x := 0) (tgt := 60) hx hb dX2_fits_33 (by decide) rfl (by decide) ?_
  refine lv_aload_n hx hb dX2_fits_60 rfl (lv_at hl 5 rfl) ?_
  refine lv_aload_n hx hb dX2_fits_61 rfl (lv_at hl 6 rfl) ?_
  refine lv_iload_n hx hb dX2_fits_62 rfl (lv_at hl 7 rfl) ?_
  refine lv_iconst (v := 0) hx hb dX2_fits_63 rfl ?_
  refine ro_i (run_V (As := [.int (nI n), .int (0)]) (rest := [.ref (a 0)]) hC.1 ckX4_at (kX4_at l g b N lim f (nI n) 0) (gw_in m_765 rfl) (fb_ro _ _ _) (va_recv hK.1 (kP_app.mp (kP_app.mp hP).2).1 (q0 := 0) rfl rfl) (fun U hU hW => ⟨by rw [hU]; exact (kP_app.mp (kP_app.mp hP).2).1, kK_warm hW hK⟩) ⟨rfl, rfl, Nat.le_of_ble_eq_true rfl, Nat.le_of_ble_eq_true rfl⟩ rfl hl.1 rfl (Nat.le_of_ble_eq_true rfl) dX2_fits_64 ⟨Nat.le_of_ble_eq_true rfl, Nat.le_of_ble_eq_true rfl⟩) ?_
  refine top_i (x := atF f (nI n) 0) (y := f (6 * n)) (show atF f (nI n) (nI 0) = _ from atF_nI hn (by omega)) ?_
  refine lv_iconst (v := 1) hx hb dX2_fits_67 rfl ?_
  refine ro_i (run_V (As := [.int (f (6 * n)), .int (1)]) (rest := []) hC.1 ckX7_fact (kX7_fact l g a r (f (6 * n)) 1 hw) (gw_in m_773 rfl) (fb_ro _ _ _) (va_recv hK.1 (kP_app.mp hP).1 (q0 := 0) rfl rfl) (fun U hU hW => ⟨by rw [hU]; exact (kP_app.mp hP).1, kK_warm hW hK⟩) ⟨rfl, rfl, Nat.le_of_ble_eq_true rfl, Nat.le_of_ble_eq_true rfl⟩ rfl hl.1 rfl (Nat.le_of_ble_eq_true rfl) dX2_fits_68 ⟨Nat.le_of_ble_eq_true rfl, Nat.le_of_ble_eq_true rfl⟩) ?_
  refine lv_iload hx hb dX2_fits_71 (lv_at hl 8 rfl) ?_
  refine lv_iload hx hb dX2_fits_73 (lv_at hl 2 rfl) ?_
  refine lv_iload hx hb dX2_fits_75 (lv_at hl 1 rfl) ?_
  refine lv_iload hx hb dX2_fits_77 (lv_at hl 3 rfl) ?_
  refine ro_i (run_S (As := [.int (yFact r (f (6 * n)) 1), .int (c), .int (f (6 * n + 2)), .int (f (6 * n + 3)), .int (f (6 * n + 1))]) (rest := []) hC.1 ckX0_cracks (kX0_cracks l (yFact r (f (6 * n)) 1) c (f (6 * n + 2)) (f (6 * n + 3)) (f (6 * n + 1)) hc hf) (gw_in m_774 rfl) (fb_nil _) (fun _ _ _ => trivial) ⟨rfl, rfl, Nat.le_of_ble_eq_true rfl, Nat.le_of_ble_eq_true rfl⟩ rfl hl.1 rfl (Nat.le_of_ble_eq_true rfl) dX2_fits_79 ⟨Nat.le_of_ble_eq_true rfl, Nat.le_of_ble_eq_true rfl⟩) ?_
  refine lv_iload hx hb dX2_fits_82 (lv_at hl 0 rfl) ?_
  refine lv_icmp_ne (tgt := 91) hx hb dX2_fits_84 (by decide) (fun c1 => ?_) (fun c1 => ?_)
  · skip
    refine lv_iconst (v := 0) hx hb dX2_fits_91 rfl ?_
    exact ret_roz hx hb hr hlk rfl (by first | (simp [fit0, b2i, Int32.not_le, Int32.not_lt, c1]; done) | (clear hx hb hr hlk hnm hml hown hts hC hl; simp_all [fit0, b2i, Int32.not_le, Int32.not_lt])) dX2_fits_92
  · skip
    refine lv_iconst (v := 1) hx hb dX2_fits_87 rfl ?_
    refine lv_goto (tgt := 92) hx hb dX2_fits_88 (by decide) ?_
    exact ret_roz hx hb hr hlk rfl (by first | (simp [fit0, b2i, Int32.not_le, Int32.not_lt, c1]; done) | (clear hx hb hr hlk hnm hml hown hts hC hl; simp_all [fit0, b2i, Int32.not_le, Int32.not_lt])) dX2_fits_92
set_option maxHeartbeats 4000000 in
set_option maxRecDepth 100000 in
theorem kX2_fits_1 (l : Launch) (g : gG) (a : Nat → Nat) (r : Nat → Int32) (b : Nat → Nat) (N : Nat) (lim : Int32) (f : Nat → Int32) (n : Nat) (c : Int32) (hw : Wf r) (hn : n < 6) (hc : bd (f (6 * n + 1)) 0 9) (hf : bd (f (6 * n + 4)) 0 44) : Met l yX2_fits (.code yX2_fits cX2_fits 9 (some .boolean) :: gw) (rmN 4) (va_Pc [.int (1), .ref (a 0), .ref (b 0), .int (nI n), .int (c)] (roPre g (yW g a r ++ (rW g b N lim f ++ [])))) (vp_Si (fun v => v = (b2i (fit1 f c n)))) 0 0 (fun _ => False) := by
  refine met_start (by decide) (Nat.le_of_ble_eq_true rfl) ?_
  intro pp ee ss mm bl mt cd hC hpre ls hl
  obtain ⟨⟨hx, hb, hml, hown, hts⟩, hr, hlk, hnm⟩ := id hC
  have hl : lv_has ls 9 [(0, .int (1)), (1, .ref (a 0)), (2, .ref (b 0)), (3, .int (nI n)), (4, .int (c))] := hl
  obtain ⟨hP, hK⟩ := hpre
  refine lv_aload_n hx hb dX2_fits_0 rfl (lv_at hl 2 rfl) ?_
  refine lv_iload_n hx hb dX2_fits_1 rfl (lv_at hl 3 rfl) ?_
  refine lv_iconst (v := 1) hx hb dX2_fits_2 rfl ?_
  refine ro_i (run_V (As := [.int (nI n), .int (1)]) (rest := []) hC.1 ckX4_at (kX4_at l g b N lim f (nI n) 1) (gw_in m_765 rfl) (fb_ro _ _ _) (va_recv hK.1 (kP_app.mp (kP_app.mp hP).2).1 (q0 := 0) rfl rfl) (fun U hU hW => ⟨by rw [hU]; exact (kP_app.mp (kP_app.mp hP).2).1, kK_warm hW hK⟩) ⟨rfl, rfl, Nat.le_of_ble_eq_true rfl, Nat.le_of_ble_eq_true rfl⟩ rfl hl.1 rfl (Nat.le_of_ble_eq_true rfl) dX2_fits_3 ⟨Nat.le_of_ble_eq_true rfl, Nat.le_of_ble_eq_true rfl⟩) ?_
  refine top_i (x := atF f (nI n) 1) (y := f (6 * n + 1)) (show atF f (nI n) (nI 1) = _ from atF_nI hn (by omega)) ?_
  refine lv_istore (lv' := [(5, .int (f (6 * n + 1))), (0, .int (1)), (1, .ref (a 0)), (2, .ref (b 0)), (3, .int (nI n)), (4, .int (c))]) hx hb dX2_fits_6 hl (by decide) rfl (fun ls hl => ?_)
  refine lv_aload_n hx hb dX2_fits_8 rfl (lv_at hl 3 rfl) ?_
  refine lv_iload_n hx hb dX2_fits_9 rfl (lv_at hl 4 rfl) ?_
  refine lv_iconst (v := 2) hx hb dX2_fits_10 rfl ?_
  refine ro_i (run_V (As := [.int (nI n), .int (2)]) (rest := []) hC.1 ckX4_at (kX4_at l g b N lim f (nI n) 2) (gw_in m_765 rfl) (fb_ro _ _ _) (va_recv hK.1 (kP_app.mp (kP_app.mp hP).2).1 (q0 := 0) rfl rfl) (fun U hU hW => ⟨by rw [hU]; exact (kP_app.mp (kP_app.mp hP).2).1, kK_warm hW hK⟩) ⟨rfl, rfl, Nat.le_of_ble_eq_true rfl, Nat.le_of_ble_eq_true rfl⟩ rfl hl.1 rfl (Nat.le_of_ble_eq_true rfl) dX2_fits_11 ⟨Nat.le_of_ble_eq_true rfl, Nat.le_of_ble_eq_true rfl⟩) ?_
  refine top_i (x := atF f (nI n) 2) (y := f (6 * n + 2)) (show atF f (nI n) (nI 2) = _ from atF_nI hn (by omega)) ?_
  refine lv_istore (lv' := [(6, .int (f (6 * n + 2))), (5, .int (f (6 * n + 1))), (0, .int (1)), (1, .ref (a 0)), (2, .ref (b 0)), (3, .int (nI n)), (4, .int (c))]) hx hb dX2_fits_14 hl (by decide) rfl (fun ls hl => ?_)
  refine lv_aload_n hx hb dX2_fits_16 rfl (lv_at hl 4 rfl) ?_
  refine lv_iload_n hx hb dX2_fits_17 rfl (lv_at hl 5 rfl) ?_
  refine lv_iconst (v := 3) hx hb dX2_fits_18 rfl ?_
  refine ro_i (run_V (As := [.int (nI n), .int (3)]) (rest := []) hC.1 ckX4_at (kX4_at l g b N lim f (nI n) 3) (gw_in m_765 rfl) (fb_ro _ _ _) (va_recv hK.1 (kP_app.mp (kP_app.mp hP).2).1 (q0 := 0) rfl rfl) (fun U hU hW => ⟨by rw [hU]; exact (kP_app.mp (kP_app.mp hP).2).1, kK_warm hW hK⟩) ⟨rfl, rfl, Nat.le_of_ble_eq_true rfl, Nat.le_of_ble_eq_true rfl⟩ rfl hl.1 rfl (Nat.le_of_ble_eq_true rfl) dX2_fits_19 ⟨Nat.le_of_ble_eq_true rfl, Nat.le_of_ble_eq_true rfl⟩) ?_
  refine top_i (x := atF f (nI n) 3) (y := f (6 * n + 3)) (show atF f (nI n) (nI 3) = _ from atF_nI hn (by omega)) ?_
  refine lv_istore (lv' := [(7, .int (f (6 * n + 3))), (6, .int (f (6 * n + 2))), (5, .int (f (6 * n + 1))), (0, .int (1)), (1, .ref (a 0)), (2, .ref (b 0)), (3, .int (nI n)), (4, .int (c))]) hx hb dX2_fits_22 hl (by decide) rfl (fun ls hl => ?_)
  refine lv_aload_n hx hb dX2_fits_24 rfl (lv_at hl 5 rfl) ?_
  refine lv_iload_n hx hb dX2_fits_25 rfl (lv_at hl 6 rfl) ?_
  refine lv_iconst (v := 4) hx hb dX2_fits_26 rfl ?_
  refine ro_i (run_V (As := [.int (nI n), .int (4)]) (rest := []) hC.1 ckX4_at (kX4_at l g b N lim f (nI n) 4) (gw_in m_765 rfl) (fb_ro _ _ _) (va_recv hK.1 (kP_app.mp (kP_app.mp hP).2).1 (q0 := 0) rfl rfl) (fun U hU hW => ⟨by rw [hU]; exact (kP_app.mp (kP_app.mp hP).2).1, kK_warm hW hK⟩) ⟨rfl, rfl, Nat.le_of_ble_eq_true rfl, Nat.le_of_ble_eq_true rfl⟩ rfl hl.1 rfl (Nat.le_of_ble_eq_true rfl) dX2_fits_27 ⟨Nat.le_of_ble_eq_true rfl, Nat.le_of_ble_eq_true rfl⟩) ?_
  refine top_i (x := atF f (nI n) 4) (y := f (6 * n + 4)) (show atF f (nI n) (nI 4) = _ from atF_nI hn (by omega)) ?_
  refine lv_istore (lv' := [(8, .int (f (6 * n + 4))), (7, .int (f (6 * n + 3))), (6, .int (f (6 * n + 2))), (5, .int (f (6 * n + 1))), (0, .int (1)), (1, .ref (a 0)), (2, .ref (b 0)), (3, .int (nI n)), (4, .int (c))]) hx hb dX2_fits_30 hl (by decide) rfl (fun ls hl => ?_)
  refine lv_iload_n hx hb dX2_fits_32 rfl (lv_at hl 4 rfl) ?_
  refine lv_lookup (x := 1) (tgt := 93) hx hb dX2_fits_33 (by decide) rfl (by decide) ?_
  refine lv_iload hx hb dX2_fits_93 (lv_at hl 8 rfl) ?_
  refine lv_iload hx hb dX2_fits_95 (lv_at hl 3 rfl) ?_
  refine lv_iload hx hb dX2_fits_97 (lv_at hl 1 rfl) ?_
  refine lv_iload hx hb dX2_fits_99 (lv_at hl 0 rfl) ?_
  refine lv_iload hx hb dX2_fits_101 (lv_at hl 2 rfl) ?_
  refine ro_i (run_S (As := [.int (c), .int (f (6 * n + 1)), .int (f (6 * n + 3)), .int (f (6 * n + 4)), .int (f (6 * n + 2))]) (rest := []) hC.1 ckX0_cracks (kX0_cracks l c (f (6 * n + 1)) (f (6 * n + 3)) (f (6 * n + 4)) (f (6 * n + 2)) hc hf) (gw_in m_774 rfl) (fb_nil _) (fun _ _ _ => trivial) ⟨rfl, rfl, Nat.le_of_ble_eq_true rfl, Nat.le_of_ble_eq_true rfl⟩ rfl hl.1 rfl (Nat.le_of_ble_eq_true rfl) dX2_fits_103 ⟨Nat.le_of_ble_eq_true rfl, Nat.le_of_ble_eq_true rfl⟩) ?_
  refine lv_aload_n hx hb dX2_fits_106 rfl (lv_at hl 6 rfl) ?_
  refine lv_iload_n hx hb dX2_fits_107 rfl (lv_at hl 7 rfl) ?_
  refine lv_iconst (v := 5) hx hb dX2_fits_108 rfl ?_
  refine ro_i (run_V (As := [.int (nI n), .int (5)]) (rest := [.int (crk c (f (6 * n + 1)) (f (6 * n + 3)) (f (6 * n + 4)) (f (6 * n + 2)))]) hC.1 ckX4_at (kX4_at l g b N lim f (nI n) 5) (gw_in m_765 rfl) (fb_ro _ _ _) (va_recv hK.1 (kP_app.mp (kP_app.mp hP).2).1 (q0 := 0) rfl rfl) (fun U hU hW => ⟨by rw [hU]; exact (kP_app.mp (kP_app.mp hP).2).1, kK_warm hW hK⟩) ⟨rfl, rfl, Nat.le_of_ble_eq_true rfl, Nat.le_of_ble_eq_true rfl⟩ rfl hl.1 rfl (Nat.le_of_ble_eq_true rfl) dX2_fits_109 ⟨Nat.le_of_ble_eq_true rfl, Nat.le_of_ble_eq_true rfl⟩) ?_
  refine top_i (x := atF f (nI n) 5) (y := f (6 * n + 5)) (show atF f (nI n) (nI 5) = _ from atF_nI hn (by omega)) ?_
  refine lv_icmp_ne (tgt := 119) hx hb dX2_fits_112 (by decide) (fun c1 => ?_) (fun c1 => ?_)
  · skip
    refine lv_iconst (v := 0) hx hb dX2_fits_119 rfl ?_
    exact ret_roz hx hb hr hlk rfl (by first | (simp [fit1, b2i, Int32.not_le, Int32.not_lt, c1]; done) | (clear hx hb hr hlk hnm hml hown hts hC hl; simp_all [fit1, b2i, Int32.not_le, Int32.not_lt])) dX2_fits_120
  · skip
    refine lv_iconst (v := 1) hx hb dX2_fits_115 rfl ?_
    refine lv_goto (tgt := 120) hx hb dX2_fits_116 (by decide) ?_
    exact ret_roz hx hb hr hlk rfl (by first | (simp [fit1, b2i, Int32.not_le, Int32.not_lt, c1]; done) | (clear hx hb hr hlk hnm hml hown hts hC hl; simp_all [fit1, b2i, Int32.not_le, Int32.not_lt])) dX2_fits_120
set_option maxHeartbeats 4000000 in
set_option maxRecDepth 100000 in
theorem kX2_fits_2 (l : Launch) (g : gG) (a : Nat → Nat) (r : Nat → Int32) (b : Nat → Nat) (N : Nat) (lim : Int32) (f : Nat → Int32) (n : Nat) (c : Int32) (hw : Wf r) (hn : n < 6) : Met l yX2_fits (.code yX2_fits cX2_fits 9 (some .boolean) :: gw) (rmN 4) (va_Pc [.int (2), .ref (a 0), .ref (b 0), .int (nI n), .int (c)] (roPre g (yW g a r ++ (rW g b N lim f ++ [])))) (vp_Si (fun v => v = (b2i (fit2 f c n)))) 0 0 (fun _ => False) := by
  refine met_start (by decide) (Nat.le_of_ble_eq_true rfl) ?_
  intro pp ee ss mm bl mt cd hC hpre ls hl
  obtain ⟨⟨hx, hb, hml, hown, hts⟩, hr, hlk, hnm⟩ := id hC
  have hl : lv_has ls 9 [(0, .int (2)), (1, .ref (a 0)), (2, .ref (b 0)), (3, .int (nI n)), (4, .int (c))] := hl
  obtain ⟨hP, hK⟩ := hpre
  refine lv_aload_n hx hb dX2_fits_0 rfl (lv_at hl 2 rfl) ?_
  refine lv_iload_n hx hb dX2_fits_1 rfl (lv_at hl 3 rfl) ?_
  refine lv_iconst (v := 1) hx hb dX2_fits_2 rfl ?_
  refine ro_i (run_V (As := [.int (nI n), .int (1)]) (rest := []) hC.1 ckX4_at (kX4_at l g b N lim f (nI n) 1) (gw_in m_765 rfl) (fb_ro _ _ _) (va_recv hK.1 (kP_app.mp (kP_app.mp hP).2).1 (q0 := 0) rfl rfl) (fun U hU hW => ⟨by rw [hU]; exact (kP_app.mp (kP_app.mp hP).2).1, kK_warm hW hK⟩) ⟨rfl, rfl, Nat.le_of_ble_eq_true rfl, Nat.le_of_ble_eq_true rfl⟩ rfl hl.1 rfl (Nat.le_of_ble_eq_true rfl) dX2_fits_3 ⟨Nat.le_of_ble_eq_true rfl, Nat.le_of_ble_eq_true rfl⟩) ?_
  refine top_i (x := atF f (nI n) 1) (y := f (6 * n + 1)) (show atF f (nI n) (nI 1) = _ from atF_nI hn (by omega)) ?_
  refine lv_istore (lv' := [(5, .int (f (6 * n + 1))), (0, .int (2)), (1, .ref (a 0)), (2, .ref (b 0)), (3, .int (nI n)), (4, .int (c))]) hx hb dX2_fits_6 hl (by decide) rfl (fun ls hl => ?_)
  refine lv_aload_n hx hb dX2_fits_8 rfl (lv_at hl 3 rfl) ?_
  refine lv_iload_n hx hb dX2_fits_9 rfl (lv_at hl 4 rfl) ?_
  refine lv_iconst (v := 2) hx hb dX2_fits_10 rfl ?_
  refine ro_i (run_V (As := [.int (nI n), .int (2)]) (rest := []) hC.1 ckX4_at (kX4_at l g b N lim f (nI n) 2) (gw_in m_765 rfl) (fb_ro _ _ _) (va_recv hK.1 (kP_app.mp (kP_app.mp hP).2).1 (q0 := 0) rfl rfl) (fun U hU hW => ⟨by rw [hU]; exact (kP_app.mp (kP_app.mp hP).2).1, kK_warm hW hK⟩) ⟨rfl, rfl, Nat.le_of_ble_eq_true rfl, Nat.le_of_ble_eq_true rfl⟩ rfl hl.1 rfl (Nat.le_of_ble_eq_true rfl) dX2_fits_11 ⟨Nat.le_of_ble_eq_true rfl, Nat.le_of_ble_eq_true rfl⟩) ?_
  refine top_i (x := atF f (nI n) 2) (y := f (6 * n + 2)) (show atF f (nI n) (nI 2) = _ from atF_nI hn (by omega)) ?_
  refine lv_istore (lv' := [(6, .int (f (6 * n + 2))), (5, .int (f (6 * n + 1))), (0, .int (2)), (1, .ref (a 0)), (2, .ref (b 0)), (3, .int (nI n)), (4, .int (c))]) hx hb dX2_fits_14 hl (by decide) rfl (fun ls hl => ?_)
  refine lv_aload_n hx hb dX2_fits_16 rfl (lv_at hl 4 rfl) ?_
  refine lv_iload_n hx hb dX2_fits_17 rfl (lv_at hl 5 rfl) ?_
  refine lv_iconst (v := 3) hx hb dX2_fits_18 rfl ?_
  refine ro_i (run_V (As := [.int (nI n), .int (3)]) (rest := []) hC.1 ckX4_at (kX4_at l g b N lim f (nI n) 3) (gw_in m_765 rfl) (fb_ro _ _ _) (va_recv hK.1 (kP_app.mp (kP_app.mp hP).2).1 (q0 := 0) rfl rfl) (fun U hU hW => ⟨by rw [hU]; exact (kP_app.mp (kP_app.mp hP).2).1, kK_warm hW hK⟩) ⟨rfl, rfl, Nat.le_of_ble_eq_true rfl, Nat.le_of_ble_eq_true rfl⟩ rfl hl.1 rfl (Nat.le_of_ble_eq_true rfl) dX2_fits_19 ⟨Nat.le_of_ble_eq_true rfl, Nat.le_of_ble_eq_true rfl⟩) ?_
  refine top_i (x := atF f (nI n) 3) (y := f (6 * n + 3)) (show atF f (nI n) (nI 3) = _ from atF_nI hn (by omega)) ?_
  refine lv_istore (lv' := [(7, .int (f (6 * n + 3))), (6, .int (f (6 * n + 2))), (5, .int (f (6 * n + 1))), (0, .int (2)), (1, .ref (a 0)), (2, .ref (b 0)), (3, .int (nI n)), (4, .int (c))]) hx hb dX2_fits_22 hl (by decide) rfl (fun ls hl => ?_)
  refine lv_aload_n hx hb dX2_fits_24 rfl (lv_at hl 5 rfl) ?_
  refine lv_iload_n hx hb dX2_fits_25 rfl (lv_at hl 6 rfl) ?_
  refine lv_iconst (v := 4) hx hb dX2_fits_26 rfl ?_
  refine ro_i (run_V (As := [.int (nI n), .int (4)]) (rest := []) hC.1 ckX4_at (kX4_at l g b N lim f (nI n) 4) (gw_in m_765 rfl) (fb_ro _ _ _) (va_recv hK.1 (kP_app.mp (kP_app.mp hP).2).1 (q0 := 0) rfl rfl) (fun U hU hW => ⟨by rw [hU]; exact (kP_app.mp (kP_app.mp hP).2).1, kK_warm hW hK⟩) ⟨rfl, rfl, Nat.le_of_ble_eq_true rfl, Nat.le_of_ble_eq_true rfl⟩ rfl hl.1 rfl (Nat.le_of_ble_eq_true rfl) dX2_fits_27 ⟨Nat.le_of_ble_eq_true rfl, Nat.le_of_ble_eq_true rfl⟩) ?_
  refine top_i (x := atF f (nI n) 4) (y := f (6 * n + 4)) (show atF f (nI n) (nI 4) = _ from atF_nI hn (by omega)) ?_
  refine lv_istore (lv' := [(8, .int (f (6 * n + 4))), (7, .int (f (6 * n + 3))), (6, .int (f (6 * n + 2))), (5, .int (f (6 * n + 1))), (0, .int (2)), (1, .ref (a 0)), (2, .ref (b 0)), (3, .int (nI n)), (4, .int (c))]) hx hb dX2_fits_30 hl (by decide) rfl (fun ls hl => ?_)
  refine lv_iload_n hx hb dX2_fits_32 rfl (lv_at hl 4 rfl) ?_
  refine lv_lookup (x := 2) (tgt := 121) hx hb dX2_fits_33 (by decide) rfl (by decide) ?_
  refine lv_iload hx hb dX2_fits_121 (lv_at hl 8 rfl) ?_
  refine lv_iload hx hb dX2_fits_123 (lv_at hl 3 rfl) ?_
  refine lv_iload hx hb dX2_fits_125 (lv_at hl 2 rfl) ?_
  refine lv_iload hx hb dX2_fits_127 (lv_at hl 1 rfl) ?_
  refine ro_i (run_S (As := [.int (c), .int (f (6 * n + 1)), .int (f (6 * n + 2)), .int (f (6 * n + 3))]) (rest := []) hC.1 ckX0_force (kX0_force l c (f (6 * n + 1)) (f (6 * n + 2)) (f (6 * n + 3))) (gw_in m_775 rfl) (fb_nil _) (fun _ _ _ => trivial) ⟨rfl, rfl, Nat.le_of_ble_eq_true rfl, Nat.le_of_ble_eq_true rfl⟩ rfl hl.1 rfl (Nat.le_of_ble_eq_true rfl) dX2_fits_129 ⟨Nat.le_of_ble_eq_true rfl, Nat.le_of_ble_eq_true rfl⟩) ?_
  refine lv_iload hx hb dX2_fits_132 (lv_at hl 0 rfl) ?_
  refine lv_icmp_ne (tgt := 141) hx hb dX2_fits_134 (by decide) (fun c1 => ?_) (fun c1 => ?_)
  · skip
    refine lv_iconst (v := 0) hx hb dX2_fits_141 rfl ?_
    exact ret_roz hx hb hr hlk rfl (by first | (simp [fit2, b2i, Int32.not_le, Int32.not_lt, c1]; done) | (clear hx hb hr hlk hnm hml hown hts hC hl; simp_all [fit2, b2i, Int32.not_le, Int32.not_lt])) dX2_fits_142
  · skip
    refine lv_iconst (v := 1) hx hb dX2_fits_137 rfl ?_
    refine lv_goto (tgt := 142) hx hb dX2_fits_138 (by decide) ?_
    exact ret_roz hx hb hr hlk rfl (by first | (simp [fit2, b2i, Int32.not_le, Int32.not_lt, c1]; done) | (clear hx hb hr hlk hnm hml hown hts hC hl; simp_all [fit2, b2i, Int32.not_le, Int32.not_lt])) dX2_fits_142
set_option maxHeartbeats 4000000 in
set_option maxRecDepth 100000 in
theorem kX2_allFit_0 (l : Launch) (g : gG) (a ay ap b1 b2 b3 : Nat → Nat) (r : Nat → Int32) (N : Nat) (f : Nat → Int32) (N1 N2 N3 : Nat) (l1 l2 l3 : Int32) (f1 f2 f3 : Nat → Int32) (who c : Int32) (hw : Wf r) (hN : N1 ≤ 6) (hc : bd c 0 9) (hf : ∀ n, n < N1 → bd (f1 (6 * n + 3)) 0 44) : Met l yX2_allFit (.code yX2_allFit cX2_allFit 6 (some .boolean) :: gw) (rmN 5) (va_Pc [.int (0), .ref (a 0), .int (who), .int (c)] (roPre g (gW g a (ay 0) (ap 0) (b1 0) (b2 0) (b3 0) ++ (yW g ay r ++ (pW g ap N f ++ (rW g b1 N1 l1 f1 ++ (rW g b2 N2 l2 f2 ++ (rW g b3 N3 l3 f3 ++ [])))))))) (vp_Si (fun v => v = (b2i (allF f1 who (fun n => fit0 r f1 c n) N1)))) 0 0 (fun _ => False) := by
  refine met_start (by decide) (Nat.le_of_ble_eq_true rfl) ?_
  intro pp ee ss mm bl mt cd hC hpre ls hl
  obtain ⟨⟨hx, hb, hml, hown, hts⟩, hr, hlk, hnm⟩ := id hC
  have hl : lv_has ls 6 [(0, .int (0)), (1, .ref (a 0)), (2, .int (who)), (3, .int (c))] := hl
  obtain ⟨hP, hK⟩ := hpre
  refine lv_aload_n hx hb dX2_allFit_0 rfl (lv_at hl 1 rfl) ?_
  refine lv_iload_n hx hb dX2_allFit_1 rfl (lv_at hl 0 rfl) ?_
  refine ro_r (run_V (As := [.int (0)]) (rest := []) hC.1 ckX1_rowsOf (kX1_rowsOf_0 l g a (ay 0) (ap 0) (b1 0) (b2 0) (b3 0)) (gw_in m_761 rfl) (fb_ro _ _ _) (va_recv hK.1 (kP_app.mp hP).1 (q0 := 0) rfl rfl) (fun U hU hW => ⟨by rw [hU]; exact (kP_app.mp hP).1, kK_warm hW hK⟩) ⟨rfl, rfl, Nat.le_of_ble_eq_true rfl, Nat.le_of_ble_eq_true rfl⟩ rfl hl.1 rfl (Nat.le_of_ble_eq_true rfl) dX2_allFit_2 ⟨Nat.le_of_ble_eq_true rfl, Nat.le_of_ble_eq_true rfl⟩) ?_
  refine lv_astore (lv' := [(4, .ref ((b1 0))), (0, .int (0)), (1, .ref (a 0)), (2, .int (who)), (3, .int (c))]) hx hb dX2_allFit_5 hl (by decide) rfl (fun ls hl => ?_)
  refine lv_iconst (v := 0) hx hb dX2_allFit_7 rfl ?_
  refine lv_istore (lv' := [(5, .int (0)), (4, .ref ((b1 0))), (0, .int (0)), (1, .ref (a 0)), (2, .int (who)), (3, .int (c))]) hx hb dX2_allFit_8 hl (by decide) rfl (fun ls hl => ?_)
  have cut10 : ∀ kk : Nat, ∀ (n : Nat), 7 - n < kk → (hn : n ≤ N1) → (hall : ∀ z, z < n → allK f1 who (fun n => fit0 r f1 c n) z = true) → ∀ (ls : Array Slot), lv_has ls 6 [(0, .int (0)), (1, .ref (a 0)), (2, .int (who)), (3, .int (c)), (4, .ref (b1 0)), (5, .int (nI n))] → W pp l ee (rmN 5) ss mm ([.int (0), .ref (a 0), .int (who), .int (c)] : List Value).toArray bl mt cd ss.heap [] 0 0 (MQ bl (vp_Si (fun v => v = (b2i (allF f1 who (fun n => fit0 r f1 c n) N1)))) ([.int (0), .ref (a 0), .int (who), .int (c)] : List Value).toArray ss 0 0 (fun _ => False)) (F0 mm 10 ls []) := by
    intro kk
    induction kk with
    | zero => intro n hmu; exact absurd hmu (Nat.not_lt_zero _)
    | succ kk ih10 =>
      intro n hmu hn hall ls hl
      refine lv_iload hx hb dX2_allFit_10 (lv_at hl 5 rfl) ?_
      refine lv_aload hx hb dX2_allFit_12 (lv_at hl 4 rfl) ?_
      refine kget hC.1 hK (kP_app.mp (kP_app.mp (kP_app.mp (kP_app.mp hP).2).2).2).1 0 rfl rfl in_4 0 (by decide) (gw_in m_167 rfl) rfl dX2_allFit_14 ?_
      refine lv_icmp_ge (tgt := 56) hx hb dX2_allFit_17 (by decide) (fun c1 => ?_) (fun c1 => ?_)
      · skip
        have c1' := Int32.not_lt.mpr c1
        have hn9 : n = N1 := by rw [nI_leI (by omega) (by omega)] at c1; omega
        subst hn9
        refine lv_iconst (v := 1) hx hb dX2_allFit_56 rfl ?_
        exact ret_roz hx hb hr hlk rfl (by rw [allF_t hall]; rfl) dX2_allFit_57
      · skip
        have c1' := Int32.not_le.mp c1
        have hn9 : n < N1 := by rw [nI_leI (by omega) (by omega)] at c1; omega
        refine lv_aload hx hb dX2_allFit_20 (lv_at hl 4 rfl) ?_
        refine lv_iload hx hb dX2_allFit_22 (lv_at hl 5 rfl) ?_
        refine lv_iconst (v := 0) hx hb dX2_allFit_24 rfl ?_
        refine ro_i (run_V (As := [.int (nI n), .int (0)]) (rest := []) hC.1 ckX4_at (kX4_at l g b1 N1 l1 f1 (nI n) 0) (gw_in m_765 rfl) (fb_ro _ _ _) (va_recv hK.1 (kP_app.mp (kP_app.mp (kP_app.mp (kP_app.mp hP).2).2).2).1 (q0 := 0) rfl rfl) (fun U hU hW => ⟨by rw [hU]; exact (kP_app.mp (kP_app.mp (kP_app.mp (kP_app.mp hP).2).2).2).1, kK_warm hW hK⟩) ⟨rfl, rfl, Nat.le_of_ble_eq_true rfl, Nat.le_of_ble_eq_true rfl⟩ rfl hl.1 rfl (Nat.le_of_ble_eq_true rfl) dX2_allFit_25 ⟨Nat.le_of_ble_eq_true rfl, Nat.le_of_ble_eq_true rfl⟩) ?_
        refine top_i (x := atF f1 (nI n) 0) (y := f1 (6 * n)) (show atF f1 (nI n) (nI 0) = _ from atF_nI (by omega) (by omega)) ?_
        refine lv_iload_n hx hb dX2_allFit_28 rfl (lv_at hl 2 rfl) ?_
        refine lv_icmp_ne (tgt := 50) hx hb dX2_allFit_29 (by decide) (fun c2 => ?_) (fun c2 => ?_)
        · skip
          refine lv_iinc (v := nI (n + 1)) (lv' := [(5, .int (nI (n + 1))), (0, .int (0)), (1, .ref (a 0)), (2, .int (who)), (3, .int (c)), (4, .ref (b1 0))]) hx hb dX2_allFit_50 hl (k := 5) rfl (inc_nI n) (by decide) rfl (fun ls hl => ?_)
          refine lv_goto (tgt := 10) hx hb dX2_allFit_53 (by decide) ?_
          exact ih10 (n + 1) (by omega) (by omega) (lt_s hall (by unfold allK; simp [hn, hall, c1, c1', c2])) _ (lv_sub hl [1, 2, 3, 4, 5, 0] rfl)
        · skip
          refine lv_iload_n hx hb dX2_allFit_32 rfl (lv_at hl 0 rfl) ?_
          refine lv_aload_n hx hb dX2_allFit_33 rfl (lv_at hl 1 rfl) ?_
          refine kget hC.1 hK (kP_app.mp hP).1 0 rfl rfl in_1 0 (by decide) (gw_in m_181 rfl) rfl dX2_allFit_34 ?_
          refine lv_aload hx hb dX2_allFit_37 (lv_at hl 4 rfl) ?_
          refine lv_iload hx hb dX2_allFit_39 (lv_at hl 5 rfl) ?_
          refine lv_iload_n hx hb dX2_allFit_41 rfl (lv_at hl 3 rfl) ?_
          refine ro_i (run_S (As := [.int (0), .ref (ay 0), .ref (b1 0), .int (nI n), .int (c)]) (rest := []) hC.1 ckX2_fits (kX2_fits_0 l g ay r b1 N1 l1 f1 n c hw (by omega) hc (hf n hn9)) (gw_in m_770 rfl) (fb_ro _ _ _) (fun U hU hW => ⟨by rw [hU]; exact (kP_app.mpr ⟨(kP_app.mp (kP_app.mp hP).2).1, (kP_app.mpr ⟨(kP_app.mp (kP_app.mp (kP_app.mp (kP_app.mp hP).2).2).2).1, (kP_mem.mpr (fun _ h => absurd h List.not_mem_nil))⟩)⟩), kK_warm hW hK⟩) ⟨rfl, rfl, Nat.le_of_ble_eq_true rfl, Nat.le_of_ble_eq_true rfl⟩ rfl hl.1 rfl (Nat.le_of_ble_eq_true rfl) dX2_allFit_42 ⟨Nat.le_of_ble_eq_true rfl, Nat.le_of_ble_eq_true rfl⟩) ?_
          refine lv_if_ne (tgt := 50) hx hb dX2_allFit_45 (by decide) (fun c3 => ?_) (fun c3 => ?_)
          · skip
            have c3 := b2i_1 c3
            refine lv_iinc (v := nI (n + 1)) (lv' := [(5, .int (nI (n + 1))), (0, .int (0)), (1, .ref (a 0)), (2, .int (who)), (3, .int (c)), (4, .ref (b1 0))]) hx hb dX2_allFit_50 hl (k := 5) rfl (inc_nI n) (by decide) rfl (fun ls hl => ?_)
            refine lv_goto (tgt := 10) hx hb dX2_allFit_53 (by decide) ?_
            exact ih10 (n + 1) (by omega) (by omega) (lt_s hall (by unfold allK; simp [hn, hall, c1, c1', c2, c3])) _ (lv_sub hl [1, 2, 3, 4, 5, 0] rfl)
          · skip
            have c3 := b2i_0 c3
            refine lv_iconst (v := 0) hx hb dX2_allFit_48 rfl ?_
            exact ret_roz hx hb hr hlk rfl (by rw [allF_f hn9 (by unfold allK; simp [hn, hall, c1, c1', c2, c3])]; rfl) dX2_allFit_49
  exact cut10 _ 0 (Nat.lt_succ_self _) (by omega) (fun j h => absurd h (Nat.not_lt_zero j)) _ (lv_sub hl [2, 3, 4, 5, 1, 0] rfl)
set_option maxHeartbeats 4000000 in
set_option maxRecDepth 100000 in
theorem kX2_allFit_1 (l : Launch) (g : gG) (a ay ap b1 b2 b3 : Nat → Nat) (r : Nat → Int32) (N : Nat) (f : Nat → Int32) (N1 N2 N3 : Nat) (l1 l2 l3 : Int32) (f1 f2 f3 : Nat → Int32) (who c : Int32) (hw : Wf r) (hN : N2 ≤ 6) (hf : ∀ n, n < N2 → bd (f2 (6 * n + 1)) 0 9 ∧ bd (f2 (6 * n + 4)) 0 44) : Met l yX2_allFit (.code yX2_allFit cX2_allFit 6 (some .boolean) :: gw) (rmN 5) (va_Pc [.int (1), .ref (a 0), .int (who), .int (c)] (roPre g (gW g a (ay 0) (ap 0) (b1 0) (b2 0) (b3 0) ++ (yW g ay r ++ (pW g ap N f ++ (rW g b1 N1 l1 f1 ++ (rW g b2 N2 l2 f2 ++ (rW g b3 N3 l3 f3 ++ [])))))))) (vp_Si (fun v => v = (b2i (allF f2 who (fun n => fit1 f2 c n) N2)))) 0 0 (fun _ => False) := by
  refine met_start (by decide) (Nat.le_of_ble_eq_true rfl) ?_
  intro pp ee ss mm bl mt cd hC hpre ls hl
  obtain ⟨⟨hx, hb, hml, hown, hts⟩, hr, hlk, hnm⟩ := id hC
  have hl : lv_has ls 6 [(0, .int (1)), (1, .ref (a 0)), (2, .int (who)), (3, .int (c))] := hl
  obtain ⟨hP, hK⟩ := hpre
  refine lv_aload_n hx hb dX2_allFit_0 rfl (lv_at hl 1 rfl) ?_
  refine lv_iload_n hx hb dX2_allFit_1 rfl (lv_at hl 0 rfl) ?_
  refine ro_r (run_V (As := [.int (1)]) (rest := []) hC.1 ckX1_rowsOf (kX1_rowsOf_1 l g a (ay 0) (ap 0) (b1 0) (b2 0) (b3 0)) (gw_in m_761 rfl) (fb_ro _ _ _) (va_recv hK.1 (kP_app.mp hP).1 (q0 := 0) rfl rfl) (fun U hU hW => ⟨by rw [hU]; exact (kP_app.mp hP).1, kK_warm hW hK⟩) ⟨rfl, rfl, Nat.le_of_ble_eq_true rfl, Nat.le_of_ble_eq_true rfl⟩ rfl hl.1 rfl (Nat.le_of_ble_eq_true rfl) dX2_allFit_2 ⟨Nat.le_of_ble_eq_true rfl, Nat.le_of_ble_eq_true rfl⟩) ?_
  refine lv_astore (lv' := [(4, .ref ((b2 0))), (0, .int (1)), (1, .ref (a 0)), (2, .int (who)), (3, .int (c))]) hx hb dX2_allFit_5 hl (by decide) rfl (fun ls hl => ?_)
  refine lv_iconst (v := 0) hx hb dX2_allFit_7 rfl ?_
  refine lv_istore (lv' := [(5, .int (0)), (4, .ref ((b2 0))), (0, .int (1)), (1, .ref (a 0)), (2, .int (who)), (3, .int (c))]) hx hb dX2_allFit_8 hl (by decide) rfl (fun ls hl => ?_)
  have cut10 : ∀ kk : Nat, ∀ (n : Nat), 7 - n < kk → (hn : n ≤ N2) → (hall : ∀ z, z < n → allK f2 who (fun n => fit1 f2 c n) z = true) → ∀ (ls : Array Slot), lv_has ls 6 [(0, .int (1)), (1, .ref (a 0)), (2, .int (who)), (3, .int (c)), (4, .ref (b2 0)), (5, .int (nI n))] → W pp l ee (rmN 5) ss mm ([.int (1), .ref (a 0), .int (who), .int (c)] : List Value).toArray bl mt cd ss.heap [] 0 0 (MQ bl (vp_Si (fun v => v = (b2i (allF f2 who (fun n => fit1 f2 c n) N2)))) ([.int (1), .ref (a 0), .int (who), .int (c)] : List Value).toArray ss 0 0 (fun _ => False)) (F0 mm 10 ls []) := by
    intro kk
    induction kk with
    | zero => intro n hmu; exact absurd hmu (Nat.not_lt_zero _)
    | succ kk ih10 =>
      intro n hmu hn hall ls hl
      refine lv_iload hx hb dX2_allFit_10 (lv_at hl 5 rfl) ?_
      refine lv_aload hx hb dX2_allFit_12 (lv_at hl 4 rfl) ?_
      refine kget hC.1 hK (kP_app.mp (kP_app.mp (kP_app.mp (kP_app.mp (kP_app.mp hP).2).2).2).2).1 0 rfl rfl in_4 0 (by decide) (gw_in m_167 rfl) rfl dX2_allFit_14 ?_
      refine lv_icmp_ge (tgt := 56) hx hb dX2_allFit_17 (by decide) (fun c1 => ?_) (fun c1 => ?_)
      · skip
        have c1' := Int32.not_lt.mpr c1
        have hn9 : n = N2 := by rw [nI_leI (by omega) (by omega)] at c1; omega
        subst hn9
        refine lv_iconst (v := 1) hx hb dX2_allFit_56 rfl ?_
        exact ret_roz hx hb hr hlk rfl (by rw [allF_t hall]; rfl) dX2_allFit_57
      · skip
        have c1' := Int32.not_le.mp c1
        have hn9 : n < N2 := by rw [nI_leI (by omega) (by omega)] at c1; omega
        refine lv_aload hx hb dX2_allFit_20 (lv_at hl 4 rfl) ?_
        refine lv_iload hx hb dX2_allFit_22 (lv_at hl 5 rfl) ?_
        refine lv_iconst (v := 0) hx hb dX2_allFit_24 rfl ?_
        refine ro_i (run_V (As := [.int (nI n), .int (0)]) (rest := []) hC.1 ckX4_at (kX4_at l g b2 N2 l2 f2 (nI n) 0) (gw_in m_765 rfl) (fb_ro _ _ _) (va_recv hK.1 (kP_app.mp (kP_app.mp (kP_app.mp (kP_app.mp (kP_app.mp hP).2).2).2).2).1 (q0 := 0) rfl rfl) (fun U hU hW => ⟨by rw [hU]; exact (kP_app.mp (kP_app.mp (kP_app.mp (kP_app.mp (kP_app.mp hP).2).2).2).2).1, kK_warm hW hK⟩) ⟨rfl, rfl, Nat.le_of_ble_eq_true rfl, Nat.le_of_ble_eq_true rfl⟩ rfl hl.1 rfl (Nat.le_of_ble_eq_true rfl) dX2_allFit_25 ⟨Nat.le_of_ble_eq_true rfl, Nat.le_of_ble_eq_true rfl⟩) ?_
        refine top_i (x := atF f2 (nI n) 0) (y := f2 (6 * n)) (show atF f2 (nI n) (nI 0) = _ from atF_nI (by omega) (by omega)) ?_
        refine lv_iload_n hx hb dX2_allFit_28 rfl (lv_at hl 2 rfl) ?_
        refine lv_icmp_ne (tgt := 50) hx hb dX2_allFit_29 (by decide) (fun c2 => ?_) (fun c2 => ?_)
        · skip
          refine lv_iinc (v := nI (n + 1)) (lv' := [(5, .int (nI (n + 1))), (0, .int (1)), (1, .ref (a 0)), (2, .int (who)), (3, .int (c)), (4, .ref (b2 0))]) hx hb dX2_allFit_50 hl (k := 5) rfl (inc_nI n) (by decide) rfl (fun ls hl => ?_)
          refine lv_goto (tgt := 10) hx hb dX2_allFit_53 (by decide) ?_
          exact ih10 (n + 1) (by omega) (by omega) (lt_s hall (by unfold allK; simp [hn, hall, c1, c1', c2])) _ (lv_sub hl [1, 2, 3, 4, 5, 0] rfl)
        · skip
          refine lv_iload_n hx hb dX2_allFit_32 rfl (lv_at hl 0 rfl) ?_
          refine lv_aload_n hx hb dX2_allFit_33 rfl (lv_at hl 1 rfl) ?_
          refine kget hC.1 hK (kP_app.mp hP).1 0 rfl rfl in_1 0 (by decide) (gw_in m_181 rfl) rfl dX2_allFit_34 ?_
          refine lv_aload hx hb dX2_allFit_37 (lv_at hl 4 rfl) ?_
          refine lv_iload hx hb dX2_allFit_39 (lv_at hl 5 rfl) ?_
          refine lv_iload_n hx hb dX2_allFit_41 rfl (lv_at hl 3 rfl) ?_
          refine ro_i (run_S (As := [.int (1), .ref (ay 0), .ref (b2 0), .int (nI n), .int (c)]) (rest := []) hC.1 ckX2_fits (kX2_fits_1 l g ay r b2 N2 l2 f2 n c hw (by omega) (hf n hn9).1 (hf n hn9).2) (gw_in m_770 rfl) (fb_ro _ _ _) (fun U hU hW => ⟨by rw [hU]; exact (kP_app.mpr ⟨(kP_app.mp (kP_app.mp hP).2).1, (kP_app.mpr ⟨(kP_app.mp (kP_app.mp (kP_app.mp (kP_app.mp (kP_app.mp hP).2).2).2).2).1, (kP_mem.mpr (fun _ h => absurd h List.not_mem_nil))⟩)⟩), kK_warm hW hK⟩) ⟨rfl, rfl, Nat.le_of_ble_eq_true rfl, Nat.le_of_ble_eq_true rfl⟩ rfl hl.1 rfl (Nat.le_of_ble_eq_true rfl) dX2_allFit_42 ⟨Nat.le_of_ble_eq_true rfl, Nat.le_of_ble_eq_true rfl⟩) ?_
          refine lv_if_ne (tgt := 50) hx hb dX2_allFit_45 (by decide) (fun c3 => ?_) (fun c3 => ?_)
          · skip
            have c3 := b2i_1 c3
            refine lv_iinc (v := nI (n + 1)) (lv' := [(5, .int (nI (n + 1))), (0, .int (1)), (1, .ref (a 0)), (2, .int (who)), (3, .int (c)), (4, .ref (b2 0))]) hx hb dX2_allFit_50 hl (k := 5) rfl (inc_nI n) (by decide) rfl (fun ls hl => ?_)
            refine lv_goto (tgt := 10) hx hb dX2_allFit_53 (by decide) ?_
            exact ih10 (n + 1) (by omega) (by omega) (lt_s hall (by unfold allK; simp [hn, hall, c1, c1', c2, c3])) _ (lv_sub hl [1, 2, 3, 4, 5, 0] rfl)
          · skip
            have c3 := b2i_0 c3
            refine lv_iconst (v := 0) hx hb dX2_allFit_48 rfl ?_
            exact ret_roz hx hb hr hlk rfl (by rw [allF_f hn9 (by unfold allK; simp [hn, hall, c1, c1', c2, c3])]; rfl) dX2_allFit_49
  exact cut10 _ 0 (Nat.lt_succ_self _) (by omega) (fun j h => absurd h (Nat.not_lt_zero j)) _ (lv_sub hl [2, 3, 4, 5, 1, 0] rfl)
set_option maxHeartbeats 4000000 in
set_option maxRecDepth 100000 in
theorem kX2_allFit_2 (l : Launch) (g : gG) (a ay ap b1 b2 b3 : Nat → Nat) (r : Nat → Int32) (N : Nat) (f : Nat → Int32) (N1 N2 N3 : Nat) (l1 l2 l3 : Int32) (f1 f2 f3 : Nat → Int32) (who c : Int32) (hw : Wf r) (hN : N3 ≤ 6) : Met l yX2_allFit (.code yX2_allFit cX2_allFit 6 (some .boolean) :: gw) (rmN 5) (va_Pc [.int (2), .ref (a 0), .int (who), .int (c)] (roPre g (gW g a (ay 0) (ap 0) (b1 0) (b2 0) (b3 0) ++ (yW g ay r ++ (pW g ap N f ++ (rW g b1 N1 l1 f1 ++ (rW g b2 N2 l2 f2 ++ (rW g b3 N3 l3 f3 ++ [])))))))) (vp_Si (fun v => v = (b2i (allF f3 who (fun n => fit2 f3 c n) N3)))) 0 0 (fun _ => False) := by
  refine met_start (by decide) (Nat.le_of_ble_eq_true rfl) ?_
  intro pp ee ss mm bl mt cd hC hpre ls hl
  obtain ⟨⟨hx, hb, hml, hown, hts⟩, hr, hlk, hnm⟩ := id hC
  have hl : lv_has ls 6 [(0, .int (2)), (1, .ref (a 0)), (2, .int (who)), (3, .int (c))] := hl
  obtain ⟨hP, hK⟩ := hpre
  refine lv_aload_n hx hb dX2_allFit_0 rfl (lv_at hl 1 rfl) ?_
  refine lv_iload_n hx hb dX2_allFit_1 rfl (lv_at hl 0 rfl) ?_
  refine ro_r (run_V (As := [.int (2)]) (rest := []) hC.1 ckX1_rowsOf (kX1_rowsOf_2 l g a (ay 0) (ap 0) (b1 0) (b2 0) (b3 0)) (gw_in m_761 rfl) (fb_ro _ _ _) (va_recv hK.1 (kP_app.mp hP).1 (q0 := 0) rfl rfl) (fun U hU hW => ⟨by rw [hU]; exact (kP_app.mp hP).1, kK_warm hW hK⟩) ⟨rfl, rfl, Nat.le_of_ble_eq_true rfl, Nat.le_of_ble_eq_true rfl⟩ rfl hl.1 rfl (Nat.le_of_ble_eq_true rfl) dX2_allFit_2 ⟨Nat.le_of_ble_eq_true rfl, Nat.le_of_ble_eq_true rfl⟩) ?_
  refine lv_astore (lv' := [(4, .ref ((b3 0))), (0, .int (2)), (1, .ref (a 0)), (2, .int (who)), (3, .int (c))]) hx hb dX2_allFit_5 hl (by decide) rfl (fun ls hl => ?_)
  refine lv_iconst (v := 0) hx hb dX2_allFit_7 rfl ?_
  refine lv_istore (lv' := [(5, .int (0)), (4, .ref ((b3 0))), (0, .int (2)), (1, .ref (a 0)), (2, .int (who)), (3, .int (c))]) hx hb dX2_allFit_8 hl (by decide) rfl (fun ls hl => ?_)
  have cut10 : ∀ kk : Nat, ∀ (n : Nat), 7 - n < kk → (hn : n ≤ N3) → (hall : ∀ z, z < n → allK f3 who (fun n => fit2 f3 c n) z = true) → ∀ (ls : Array Slot), lv_has ls 6 [(0, .int (2)), (1, .ref (a 0)), (2, .int (who)), (3, .int (c)), (4, .ref (b3 0)), (5, .int (nI n))] → W pp l ee (rmN 5) ss mm ([.int (2), .ref (a 0), .int (who), .int (c)] : List Value).toArray bl mt cd ss.heap [] 0 0 (MQ bl (vp_Si (fun v => v = (b2i (allF f3 who (fun n => fit2 f3 c n) N3)))) ([.int (2), .ref (a 0), .int (who), .int (c)] : List Value).toArray ss 0 0 (fun _ => False)) (F0 mm 10 ls []) := by
    intro kk
    induction kk with
    | zero => intro n hmu; exact absurd hmu (Nat.not_lt_zero _)
    | succ kk ih10 =>
      intro n hmu hn hall ls hl
      refine lv_iload hx hb dX2_allFit_10 (lv_at hl 5 rfl) ?_
      refine lv_aload hx hb dX2_allFit_12 (lv_at hl 4 rfl) ?_
      refine kget hC.1 hK (kP_app.mp (kP_app.mp (kP_app.mp (kP_app.mp (kP_app.mp (kP_app.mp hP).2).2).2).2).2).1 0 rfl rfl in_4 0 (by decide) (gw_in m_167 rfl) rfl dX2_allFit_14 ?_
      refine lv_icmp_ge (tgt := 56) hx hb dX2_allFit_17 (by decide) (fun c1 => ?_) (fun c1 => ?_)
      · skip
        have c1' := Int32.not_lt.mpr c1
        have hn9 : n = N3 := by rw [nI_leI (by omega) (by omega)] at c1; omega
        subst hn9
        refine lv_iconst (v := 1) hx hb dX2_allFit_56 rfl ?_
        exact ret_roz hx hb hr hlk rfl (by rw [allF_t hall]; rfl) dX2_allFit_57
      · skip
        have c1' := Int32.not_le.mp c1
        have hn9 : n < N3 := by rw [nI_leI (by omega) (by omega)] at c1; omega
        refine lv_aload hx hb dX2_allFit_20 (lv_at hl 4 rfl) ?_
        refine lv_iload hx hb dX2_allFit_22 (lv_at hl 5 rfl) ?_
        refine lv_iconst (v := 0) hx hb dX2_allFit_24 rfl ?_
        refine ro_i (run_V (As := [.int (nI n), .int (0)]) (rest := []) hC.1 ckX4_at (kX4_at l g b3 N3 l3 f3 (nI n) 0) (gw_in m_765 rfl) (fb_ro _ _ _) (va_recv hK.1 (kP_app.mp (kP_app.mp (kP_app.mp (kP_app.mp (kP_app.mp (kP_app.mp hP).2).2).2).2).2).1 (q0 := 0) rfl rfl) (fun U hU hW => ⟨by rw [hU]; exact (kP_app.mp (kP_app.mp (kP_app.mp (kP_app.mp (kP_app.mp (kP_app.mp hP).2).2).2).2).2).1, kK_warm hW hK⟩) ⟨rfl, rfl, Nat.le_of_ble_eq_true rfl, Nat.le_of_ble_eq_true rfl⟩ rfl hl.1 rfl (Nat.le_of_ble_eq_true rfl) dX2_allFit_25 ⟨Nat.le_of_ble_eq_true rfl, Nat.le_of_ble_eq_true rfl⟩) ?_
        refine top_i (x := atF f3 (nI n) 0) (y := f3 (6 * n)) (show atF f3 (nI n) (nI 0) = _ from atF_nI (by omega) (by omega)) ?_
        refine lv_iload_n hx hb dX2_allFit_28 rfl (lv_at hl 2 rfl) ?_
        refine lv_icmp_ne (tgt := 50) hx hb dX2_allFit_29 (by decide) (fun c2 => ?_) (fun c2 => ?_)
        · skip
          refine lv_iinc (v := nI (n + 1)) (lv' := [(5, .int (nI (n + 1))), (0, .int (2)), (1, .ref (a 0)), (2, .int (who)), (3, .int (c)), (4, .ref (b3 0))]) hx hb dX2_allFit_50 hl (k := 5) rfl (inc_nI n) (by decide) rfl (fun ls hl => ?_)
          refine lv_goto (tgt := 10) hx hb dX2_allFit_53 (by decide) ?_
          exact ih10 (n + 1) (by omega) (by omega) (lt_s hall (by unfold allK; simp [hn, hall, c1, c1', c2])) _ (lv_sub hl [1, 2, 3, 4, 5, 0] rfl)
        · skip
          refine lv_iload_n hx hb dX2_allFit_32 rfl (lv_at hl 0 rfl) ?_
          refine lv_aload_n hx hb dX2_allFit_33 rfl (lv_at hl 1 rfl) ?_
          refine kget hC.1 hK (kP_app.mp hP).1 0 rfl rfl in_1 0 (by decide) (gw_in m_181 rfl) rfl dX2_allFit_34 ?_
          refine lv_aload hx hb dX2_allFit_37 (lv_at hl 4 rfl) ?_
          refine lv_iload hx hb dX2_allFit_39 (lv_at hl 5 rfl) ?_
          refine lv_iload_n hx hb dX2_allFit_41 rfl (lv_at hl 3 rfl) ?_
          refine ro_i (run_S (As := [.int (2), .ref (ay 0), .ref (b3 0), .int (nI n), .int (c)]) (rest := []) hC.1 ckX2_fits (kX2_fits_2 l g ay r b3 N3 l3 f3 n c hw (by omega)) (gw_in m_770 rfl) (fb_ro _ _ _) (fun U hU hW => ⟨by rw [hU]; exact (kP_app.mpr ⟨(kP_app.mp (kP_app.mp hP).2).1, (kP_app.mpr ⟨(kP_app.mp (kP_app.mp (kP_app.mp (kP_app.mp (kP_app.mp (kP_app.mp hP).2).2).2).2).2).1, (kP_mem.mpr (fun _ h => absurd h List.not_mem_nil))⟩)⟩), kK_warm hW hK⟩) ⟨rfl, rfl, Nat.le_of_ble_eq_true rfl, Nat.le_of_ble_eq_true rfl⟩ rfl hl.1 rfl (Nat.le_of_ble_eq_true rfl) dX2_allFit_42 ⟨Nat.le_of_ble_eq_true rfl, Nat.le_of_ble_eq_true rfl⟩) ?_
          refine lv_if_ne (tgt := 50) hx hb dX2_allFit_45 (by decide) (fun c3 => ?_) (fun c3 => ?_)
          · skip
            have c3 := b2i_1 c3
            refine lv_iinc (v := nI (n + 1)) (lv' := [(5, .int (nI (n + 1))), (0, .int (2)), (1, .ref (a 0)), (2, .int (who)), (3, .int (c)), (4, .ref (b3 0))]) hx hb dX2_allFit_50 hl (k := 5) rfl (inc_nI n) (by decide) rfl (fun ls hl => ?_)
            refine lv_goto (tgt := 10) hx hb dX2_allFit_53 (by decide) ?_
            exact ih10 (n + 1) (by omega) (by omega) (lt_s hall (by unfold allK; simp [hn, hall, c1, c1', c2, c3])) _ (lv_sub hl [1, 2, 3, 4, 5, 0] rfl)
          · skip
            have c3 := b2i_0 c3
            refine lv_iconst (v := 0) hx hb dX2_allFit_48 rfl ?_
            exact ret_roz hx hb hr hlk rfl (by rw [allF_f hn9 (by unfold allK; simp [hn, hall, c1, c1', c2, c3])]; rfl) dX2_allFit_49
  exact cut10 _ 0 (Nat.lt_succ_self _) (by omega) (fun j h => absurd h (Nat.not_lt_zero j)) _ (lv_sub hl [2, 3, 4, 5, 1, 0] rfl)
