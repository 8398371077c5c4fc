theorem ckX9_bad : ckV yX9_bad cX9_bad 2 (some .int) 1 := ⟨(gw_in m_1044 rfl), (gw_in m_71 rfl), ⟨(gw_in m_1043 rfl), (gw_in m_30 rfl)⟩, by decide +kernel, by decide +kernel, by decide +kernel⟩
theorem ckX9_no : ckV yX9_no cX9_no 1 (some .int) 0 := ⟨(gw_in m_1189 rfl), (gw_in m_71 rfl), ⟨(gw_in m_1188 rfl), (gw_in m_46 rfl)⟩, by decide +kernel, by decide +kernel, by decide +kernel⟩
theorem ckX9_full : ckV yX9_full cX9_full 1 (some .int) 0 := ⟨(gw_in m_1067 rfl), (gw_in m_71 rfl), ⟨(gw_in m_1066 rfl), (gw_in m_32 rfl)⟩, by decide +kernel, by decide +kernel, by decide +kernel⟩
theorem ckX9_status : ckV yX9_status cX9_status 2 (some .int) 1 := ⟨(gw_in m_1037 rfl), (gw_in m_71 rfl), ⟨(gw_in m_1035 rfl), (gw_in m_1036 rfl)⟩, by decide +kernel, by decide +kernel, by decide +kernel⟩
theorem ckX9_isPair : ckV yX9_isPair cX9_isPair 3 (some .boolean) 2 := ⟨(gw_in m_1185 rfl), (gw_in m_71 rfl), ⟨(gw_in m_1184 rfl), (gw_in m_45 rfl)⟩, by decide +kernel, by decide +kernel, by decide +kernel⟩
theorem ckX9_sumOf : ckV yX9_sumOf cX9_sumOf 4 (some .int) 1 := ⟨(gw_in m_1385 rfl), (gw_in m_71 rfl), ⟨(gw_in m_1384 rfl), (gw_in m_59 rfl)⟩, by decide +kernel, by decide +kernel, by decide +kernel⟩
set_option maxHeartbeats 4000000 in
set_option maxRecDepth 100000 in
theorem kX9_bad (l : Launch) (g : gG) (o : Nat → Nat) (ab be : Int64) (lm ra ta : Nat) (ti fa : Int32) (um ua : Nat) (hh : Int64) (rf : Nat → Int32) (x : Int32)  : Met l yX9_bad (.code yX9_bad cX9_bad 2 (some .int) :: gw) (rmN 0) (va_Pc [.ref (o 0), .int (x)] (rwPre g (mO g o ab be lm ra ta ti fa um ua hh ++ (aW g (o 1) 3 rf ++ [])))) (rwQi g (mO g o ab be lm ra ta ti fa um ua hh ++ (aW g (o 1) 3 rf ++ [])) (mO g o ab be lm ra ta ti fa um ua hh ++ (aW g (o 1) 3 (upd rf 0 (rf 0 + 1)) ++ [])) x) 0 0 (dm (mO g o ab be lm ra ta ti fa um ua hh ++ (aW g (o 1) 3 rf ++ []))) := by
  refine met_start (by decide) (Nat.le_of_ble_eq_true rfl) ?_
  intro pp ee ss mm bl mt cd hC hpre ls hl
  obtain ⟨⟨hx, hb, hml, hown, hts⟩, hr, hlk, hnm⟩ := id hC
  have hl : lv_has ls 2 [(0, .ref (o 0)), (1, .int (x))] := hl
  obtain ⟨hP, hK, hD⟩ := hpre
  have hS : va_S (dm (mO g o ab be lm ra ta ti fa um ua hh ++ (aW g (o 1) 3 rf ++ []))) ss.heap ss.heap [] := va_S.rf
  have hD := vD_self hD
  refine lv_aload_n hx hb dX9_bad_0 rfl (lv_at hl 0 rfl) ?_
  refine kget hC.1 hK (kP_app.mp hP).1 0 rfl rfl in_9 0 (by decide) (gw_in m_960 rfl) rfl dX9_bad_1 ?_
  refine lv_iconst (v := 0) hx hb dX9_bad_4 rfl ?_
  refine lv_dup2_11 hx hb dX9_bad_5 rfl rfl ?_
  refine kald (v := rf 0) hC.1 hK (kP_app.mp (kP_app.mp hP).2).1 0 rfl (show vp_in (nI 0) 3 from vp_in_nI (by omega) (by omega)) (congrArg rf (show cl 0 = 0 from by decide)) dX9_bad_6 ?_
  refine lv_iconst (v := 1) hx hb dX9_bad_7 rfl ?_
  refine lv_iadd hx hb dX9_bad_8 ?_
  have hP : kP g (aW g (o 1) 3 rf ++ (mO g o ab be lm ra ta ti fa um ua hh ++ [])) _ := kP_perm (pm_swap _ _ _) hP
  have hD : va_D _ (aW g (o 1) 3 rf ++ (mO g o ab be lm ra ta ti fa um ua hh ++ [])) := vD_perm (pm_swap _ _ _) hD
  refine kast (B' := aW g (o 1) 3 (upd rf 0 ((rf 0) + 1))) hC.1 hK hP hD hS 0 rfl (show vp_in (nI 0) 3 from vp_in_nI (by omega) (by omega)) (fun _ h => by rw [(show cl 0 = 0 from by decide)] at h; exact h) aW_adr dX9_bad_9 (fun H locs hP hD hS => ?_)
  refine lv_iload_n hx hb dX9_bad_10 rfl (lv_at hl 1 rfl) ?_
  have hP : kP g (mO g o ab be lm ra ta ti fa um ua hh ++ (aW g (o 1) 3 (upd rf 0 ((rf 0) + 1)) ++ [])) _ := kP_perm (pm_swap _ _ _) hP
  have hD : va_D _ (mO g o ab be lm ra ta ti fa um ua hh ++ (aW g (o 1) 3 (upd rf 0 ((rf 0) + 1)) ++ [])) := vD_perm (pm_swap _ _ _) hD
  exact ret_rwi hx hb hr hlk (by rfl) (hP) hS dX9_bad_11
set_option maxHeartbeats 4000000 in
set_option maxRecDepth 100000 in
theorem kX9_no (l : Launch) (g : gG) (o : Nat → Nat) (ab be : Int64) (lm ra ta : Nat) (ti fa : Int32) (um ua : Nat) (hh : Int64) (rf : Nat → Int32)  : Met l yX9_no (.code yX9_no cX9_no 1 (some .int) :: gw) (rmN 0) (va_Pc [.ref (o 0)] (rwPre g (mO g o ab be lm ra ta ti fa um ua hh ++ (aW g (o 1) 3 rf ++ [])))) (rwQi g (mO g o ab be lm ra ta ti fa um ua hh ++ (aW g (o 1) 3 rf ++ [])) (mO g o ab be lm ra ta ti fa um ua hh ++ (aW g (o 1) 3 (upd rf 1 (rf 1 + 1)) ++ [])) (-3)) 0 0 (dm (mO g o ab be lm ra ta ti fa um ua hh ++ (aW g (o 1) 3 rf ++ []))) := by
  refine met_start (by decide) (Nat.le_of_ble_eq_true rfl) ?_
  intro pp ee ss mm bl mt cd hC hpre ls hl
  obtain ⟨⟨hx, hb, hml, hown, hts⟩, hr, hlk, hnm⟩ := id hC
  have hl : lv_has ls 1 [(0, .ref (o 0))] := hl
  obtain ⟨hP, hK, hD⟩ := hpre
  have hS : va_S (dm (mO g o ab be lm ra ta ti fa um ua hh ++ (aW g (o 1) 3 rf ++ []))) ss.heap ss.heap [] := va_S.rf
  have hD := vD_self hD
  refine lv_aload_n hx hb dX9_no_0 rfl (lv_at hl 0 rfl) ?_
  refine kget hC.1 hK (kP_app.mp hP).1 0 rfl rfl in_9 0 (by decide) (gw_in m_960 rfl) rfl dX9_no_1 ?_
  refine lv_iconst (v := 1) hx hb dX9_no_4 rfl ?_
  refine lv_dup2_11 hx hb dX9_no_5 rfl rfl ?_
  refine kald (v := rf 1) hC.1 hK (kP_app.mp (kP_app.mp hP).2).1 0 rfl (show vp_in (nI 1) 3 from vp_in_nI (by omega) (by omega)) (congrArg rf (show cl 1 = 1 from by decide)) dX9_no_6 ?_
  refine lv_iconst (v := 1) hx hb dX9_no_7 rfl ?_
  refine lv_iadd hx hb dX9_no_8 ?_
  have hP : kP g (aW g (o 1) 3 rf ++ (mO g o ab be lm ra ta ti fa um ua hh ++ [])) _ := kP_perm (pm_swap _ _ _) hP
  have hD : va_D _ (aW g (o 1) 3 rf ++ (mO g o ab be lm ra ta ti fa um ua hh ++ [])) := vD_perm (pm_swap _ _ _) hD
  refine kast (B' := aW g (o 1) 3 (upd rf 1 ((rf 1) + 1))) hC.1 hK hP hD hS 0 rfl (show vp_in (nI 1) 3 from vp_in_nI (by omega) (by omega)) (fun _ h => by rw [(show cl 1 = 1 from by decide)] at h; exact h) aW_adr dX9_no_9 (fun H locs hP hD hS => ?_)
  refine lv_bipush (v := -3) hx hb dX9_no_10 rfl ?_
  have hP : kP g (mO g o ab be lm ra ta ti fa um ua hh ++ (aW g (o 1) 3 (upd rf 1 ((rf 1) + 1)) ++ [])) _ := kP_perm (pm_swap _ _ _) hP
  have hD : va_D _ (mO g o ab be lm ra ta ti fa um ua hh ++ (aW g (o 1) 3 (upd rf 1 ((rf 1) + 1)) ++ [])) := vD_perm (pm_swap _ _ _) hD
  exact ret_rwi hx hb hr hlk (by rfl) (hP) hS dX9_no_12
set_option maxHeartbeats 4000000 in
set_option maxRecDepth 100000 in
theorem kX9_full (l : Launch) (g : gG) (o : Nat → Nat) (ab be : Int64) (lm ra ta : Nat) (ti fa : Int32) (um ua : Nat) (hh : Int64) (rf : Nat → Int32)  : Met l yX9_full (.code yX9_full cX9_full 1 (some .int) :: gw) (rmN 0) (va_Pc [.ref (o 0)] (rwPre g (mO g o ab be lm ra ta ti fa um ua hh ++ (aW g (o 1) 3 rf ++ [])))) (rwQi g (mO g o ab be lm ra ta ti fa um ua hh ++ (aW g (o 1) 3 rf ++ [])) (mO g o ab be lm ra ta ti fa um ua hh ++ (aW g (o 1) 3 (upd rf 2 (rf 2 + 1)) ++ [])) (-4)) 0 0 (dm (mO g o ab be lm ra ta ti fa um ua hh ++ (aW g (o 1) 3 rf ++ []))) := by
  refine met_start (by decide) (Nat.le_of_ble_eq_true rfl) ?_
  intro pp ee ss mm bl mt cd hC hpre ls hl
  obtain ⟨⟨hx, hb, hml, hown, hts⟩, hr, hlk, hnm⟩ := id hC
  have hl : lv_has ls 1 [(0, .ref (o 0))] := hl
  obtain ⟨hP, hK, hD⟩ := hpre
  have hS : va_S (dm (mO g o ab be lm ra ta ti fa um ua hh ++ (aW g (o 1) 3 rf ++ []))) ss.heap ss.heap [] := va_S.rf
  have hD := vD_self hD
  refine lv_aload_n hx hb dX9_full_0 rfl (lv_at hl 0 rfl) ?_
  refine kget hC.1 hK (kP_app.mp hP).1 0 rfl rfl in_9 0 (by decide) (gw_in m_960 rfl) rfl dX9_full_1 ?_
  refine lv_iconst (v := 2) hx hb dX9_full_4 rfl ?_
  refine lv_dup2_11 hx hb dX9_full_5 rfl rfl ?_
  refine kald (v := rf 2) hC.1 hK (kP_app.mp (kP_app.mp hP).2).1 0 rfl (show vp_in (nI 2) 3 from vp_in_nI (by omega) (by omega)) (congrArg rf (show cl 2 = 2 from by decide)) dX9_full_6 ?_
  refine lv_iconst (v := 1) hx hb dX9_full_7 rfl ?_
  refine lv_iadd hx hb dX9_full_8 ?_
  have hP : kP g (aW g (o 1) 3 rf ++ (mO g o ab be lm ra ta ti fa um ua hh ++ [])) _ := kP_perm (pm_swap _ _ _) hP
  have hD : va_D _ (aW g (o 1) 3 rf ++ (mO g o ab be lm ra ta ti fa um ua hh ++ [])) := vD_perm (pm_swap _ _ _) hD
  refine kast (B' := aW g (o 1) 3 (upd rf 2 ((rf 2) + 1))) hC.1 hK hP hD hS 0 rfl (show vp_in (nI 2) 3 from vp_in_nI (by omega) (by omega)) (fun _ h => by rw [(show cl 2 = 2 from by decide)] at h; exact h) aW_adr dX9_full_9 (fun H locs hP hD hS => ?_)
  refine lv_bipush (v := -4) hx hb dX9_full_10 rfl ?_
  have hP : kP g (mO g o ab be lm ra ta ti fa um ua hh ++ (aW g (o 1) 3 (upd rf 2 ((rf 2) + 1)) ++ [])) _ := kP_perm (pm_swap _ _ _) hP
  have hD : va_D _ (mO g o ab be lm ra ta ti fa um ua hh ++ (aW g (o 1) 3 (upd rf 2 ((rf 2) + 1)) ++ [])) := vD_perm (pm_swap _ _ _) hD
  exact ret_rwi hx hb hr hlk (by rfl) (hP) hS dX9_full_12
set_option maxHeartbeats 4000000 in
set_option maxRecDepth 100000 in
theorem kX9_status (l : Launch) (g : gG) (o : Nat → Nat) (ab be : Int64) (lm ra ta : Nat) (ti fa : Int32) (um ua : Nat) (hh : Int64) (rf : Nat → Int32) (w : Int32) : Met l yX9_status (.code yX9_status cX9_status 2 (some .int) :: gw) (rmN 1) (va_Pc [.ref (o 0), .int (w)] (rwPre g (mO g o ab be lm ra ta ti fa um ua hh ++ (aW g (o 1) 3 rf ++ [])))) (rwQi g (mO g o ab be lm ra ta ti fa um ua hh ++ (aW g (o 1) 3 rf ++ [])) (mO g o ab be lm ra ta ti fa um ua hh ++ (aW g (o 1) 3 (if wth w 0 2 = true then rf else upd rf 0 (rf 0 + 1)) ++ [])) (if wth w 0 2 = true then rf (cl w) else -1)) 0 0 (dm (mO g o ab be lm ra ta ti fa um ua hh ++ (aW g (o 1) 3 rf ++ []))) := by
  refine met_start (by decide) (Nat.le_of_ble_eq_true rfl) ?_
  intro pp ee ss mm bl mt cd hC hpre ls hl
  obtain ⟨⟨hx, hb, hml, hown, hts⟩, hr, hlk, hnm⟩ := id hC
  have hl : lv_has ls 2 [(0, .ref (o 0)), (1, .int (w))] := hl
  obtain ⟨hP, hK, hD⟩ := hpre
  have hS : va_S (dm (mO g o ab be lm ra ta ti fa um ua hh ++ (aW g (o 1) 3 rf ++ []))) ss.heap ss.heap [] := va_S.rf
  have hD := vD_self hD
  refine lv_iload_n hx hb dX9_status_0 rfl (lv_at hl 1 rfl) ?_
  refine lv_iconst (v := 0) hx hb dX9_status_1 rfl ?_
  refine lv_iconst (v := 2) hx hb dX9_status_2 rfl ?_
  refine ro_i (run_S (As := [.int (w), .int (0), .int (2)]) (rest := []) hC.1 ckX9_in (kX9_in l w 0 2) (gw_in m_1038 rfl) (fb_nil _) (fun _ _ _ => trivial) ⟨rfl, rfl, Nat.le_of_ble_eq_true rfl, Nat.le_of_ble_eq_true rfl⟩ rfl hl.1 rfl (Nat.le_of_ble_eq_true rfl) dX9_status_3 ⟨Nat.le_of_ble_eq_true rfl, Nat.le_of_ble_eq_true rfl⟩) ?_
  refine lv_if_eq (tgt := 18) hx hb dX9_status_6 (by decide) (fun c1 => ?_) (fun c1 => ?_)
  · skip
    have c1 := b2i_0 c1
    refine lv_aload_n hx hb dX9_status_18 rfl (lv_at hl 0 rfl) ?_
    refine lv_iconst (v := -1) hx hb dX9_status_19 rfl ?_
    refine rw_i (run_V (As := [.int (-1)]) (rest := []) hC.1 ckX9_bad (kX9_bad l g o ab be lm ra ta ti fa um ua hh rf (-1)) (gw_in m_1041 rfl) (fb_rw _ _ _) (va_recv hK.1 (kP_app.mp hP).1 (q0 := 0) rfl rfl) (fun U hU hW => ⟨by rw [hU]; exact (kP_app.mpr ⟨(kP_app.mp hP).1, (kP_app.mpr ⟨(kP_app.mp (kP_app.mp hP).2).1, kP_nil⟩)⟩), kK_warm hW hK, vD_sub (sbA _ (sbA _ (sb0 _))) hD⟩) ⟨rfl, rfl, Nat.le_of_ble_eq_true rfl, Nat.le_of_ble_eq_true rfl⟩ rfl hl.1 rfl (Nat.le_of_ble_eq_true rfl) dX9_status_20 ⟨Nat.le_of_ble_eq_true rfl, Nat.le_of_ble_eq_true rfl⟩) (adr_app rfl (adr_app aW_adr rfl)) (asc2 _ _ _) (ww' := mO g o ab be lm ra ta ti fa um ua hh ++ (aW g (o 1) 3 (upd rf 0 (rf 0 + 1)) ++ [])) (asc2 _ _ _) hP hD hS (fun H locs hP hD hS => ?_)
    exact ret_rwi hx hb hr hlk (by simp [c1]) (kP_eq (by simp [c1]) hP) hS dX9_status_23
  · skip
    have c1 := b2i_1 c1
    refine lv_aload_n hx hb dX9_status_9 rfl (lv_at hl 0 rfl) ?_
    refine kget hC.1 hK (kP_app.mp hP).1 0 rfl rfl in_9 0 (by decide) (gw_in m_960 rfl) rfl dX9_status_10 ?_
    refine lv_iload_n hx hb dX9_status_13 rfl (lv_at hl 1 rfl) ?_
    refine kald (v := rf (cl w)) hC.1 hK (kP_app.mp (kP_app.mp hP).2).1 0 rfl (wth_in2 c1) rfl dX9_status_14 ?_
    refine lv_goto (tgt := 23) hx hb dX9_status_15 (by decide) ?_
    exact ret_rwi hx hb hr hlk (by simp [c1]) (kP_eq (by simp [c1]) hP) hS dX9_status_23
set_option maxHeartbeats 4000000 in
set_option maxRecDepth 100000 in
theorem kX9_isPair (l : Launch) (g : gG) (o : Nat → Nat) (ab be : Int64) (lm ra ta : Nat) (ti fa : Int32) (um ua : Nat) (hh : Int64) (r : Nat → Int32) (i j : Int32) (hw : Wf r) : Met l yX9_isPair (.code yX9_isPair cX9_isPair 3 (some .boolean) :: gw) (rmN 2) (va_Pc [.ref (o 0), .int (i), .int (j)] (roPre g (mO g o ab be lm ra ta ti fa um ua hh ++ (aW g (o 2) 45 r ++ [])))) (vp_Si (fun v => v = (b2i (yNut r i && yNut r j && decide (¬ i = j))))) 0 0 (fun _ => False) := by
  refine met_start (by decide) (Nat.le_of_ble_eq_true rfl) ?_
  intro pp ee ss mm bl mt cd hC hpre ls hl
  obtain ⟨⟨hx, hb, hml, hown, hts⟩, hr, hlk, hnm⟩ := id hC
  have hl : lv_has ls 3 [(0, .ref (o 0)), (1, .int (i)), (2, .int (j))] := hl
  obtain ⟨hP, hK⟩ := hpre
  refine lv_aload_n hx hb dX9_isPair_0 rfl (lv_at hl 0 rfl) ?_
  refine kget hC.1 hK (kP_app.mp hP).1 0 rfl rfl in_9 3 (by decide) (gw_in m_963 rfl) rfl dX9_isPair_1 ?_
  refine lv_iload_n hx hb dX9_isPair_4 rfl (lv_at hl 1 rfl) ?_
  refine ro_i (run_S (As := [.ref (o 2), .int (i)]) (rest := []) hC.1 ckX9_isNut (kX9_isNut l g (o 2) r i hw) (gw_in m_1139 rfl) (fb_ro _ _ _) (fun U hU hW => ⟨by rw [hU]; exact (kP_app.mp (kP_app.mp hP).2).1, kK_warm hW hK⟩) ⟨rfl, rfl, Nat.le_of_ble_eq_true rfl, Nat.le_of_ble_eq_true rfl⟩ rfl hl.1 rfl (Nat.le_of_ble_eq_true rfl) dX9_isPair_5 ⟨Nat.le_of_ble_eq_true rfl, Nat.le_of_ble_eq_true rfl⟩) ?_
  refine lv_if_eq (tgt := 31) hx hb dX9_isPair_8 (by decide) (fun c1 => ?_) (fun c1 => ?_)
  · skip
    have c1 := b2i_0 c1
    refine lv_iconst (v := 0) hx hb dX9_isPair_31 rfl ?_
    exact ret_roz hx hb hr hlk rfl (by simp [b2i, c1]) dX9_isPair_32
  · skip
    have c1 := b2i_1 c1
    refine lv_aload_n hx hb dX9_isPair_11 rfl (lv_at hl 0 rfl) ?_
    refine kget hC.1 hK (kP_app.mp hP).1 0 rfl rfl in_9 3 (by decide) (gw_in m_963 rfl) rfl dX9_isPair_12 ?_
    refine lv_iload_n hx hb dX9_isPair_15 rfl (lv_at hl 2 rfl) ?_
    refine ro_i (run_S (As := [.ref (o 2), .int (j)]) (rest := []) hC.1 ckX9_isNut (kX9_isNut l g (o 2) r j hw) (gw_in m_1139 rfl) (fb_ro _ _ _) (fun U hU hW => ⟨by rw [hU]; exact (kP_app.mp (kP_app.mp hP).2).1, kK_warm hW hK⟩) ⟨rfl, rfl, Nat.le_of_ble_eq_true rfl, Nat.le_of_ble_eq_true rfl⟩ rfl hl.1 rfl (Nat.le_of_ble_eq_true rfl) dX9_isPair_16 ⟨Nat.le_of_ble_eq_true rfl, Nat.le_of_ble_eq_true rfl⟩) ?_
    refine lv_if_eq (tgt := 31) hx hb dX9_isPair_19 (by decide) (fun c2 => ?_) (fun c2 => ?_)
    · skip
      have c2 := b2i_0 c2
      refine lv_iconst (v := 0) hx hb dX9_isPair_31 rfl ?_
      exact ret_roz hx hb hr hlk rfl (by simp [b2i, c1, c2]) dX9_isPair_32
    · skip
      have c2 := b2i_1 c2
      refine lv_iload_n hx hb dX9_isPair_22 rfl (lv_at hl 1 rfl) ?_
      refine lv_iload_n hx hb dX9_isPair_23 rfl (lv_at hl 2 rfl) ?_
      refine lv_icmp_eq (tgt := 31) hx hb dX9_isPair_24 (by decide) (fun c3 => ?_) (fun c3 => ?_)
      · skip
        refine lv_iconst (v := 0) hx hb dX9_isPair_31 rfl ?_
        exact ret_roz hx hb hr hlk rfl (by simp [b2i, c1, c2, c3]) dX9_isPair_32
      · skip
        refine lv_iconst (v := 1) hx hb dX9_isPair_27 rfl ?_
        refine lv_goto (tgt := 32) hx hb dX9_isPair_28 (by decide) ?_
        exact ret_roz hx hb hr hlk rfl (by simp [b2i, c1, c2, c3]) dX9_isPair_32
set_option maxHeartbeats 4000000 in
set_option maxRecDepth 100000 in
theorem kX9_sumOf (l : Launch) (g : gG) (o : Nat → Nat) (ab be : Int64) (lm ra ta : Nat) (ti fa : Int32) (um ua : Nat) (hh : Int64) (r : Nat → Int32) (k : Nat) (hw : Wf r) (hk : k ≤ 39) : Met l yX9_sumOf (.code yX9_sumOf cX9_sumOf 4 (some .int) :: gw) (rmN 0) (va_Pc [.ref (o 0), .int (nI k)] (roPre g (mO g o ab be lm ra ta ti fa um ua hh ++ (aW g (o 2) 45 r ++ [])))) (vp_Si (fun v => v = (sumN (fun j => r (k + j)) (cl (r 2))))) 0 0 (fun _ => False) := by
  refine met_start (by decide) (Nat.le_of_ble_eq_true rfl) ?_
  intro pp ee ss mm bl mt cd hC hpre ls hl
  obtain ⟨⟨hx, hb, hml, hown, hts⟩, hr, hlk, hnm⟩ := id hC
  have hl : lv_has ls 4 [(0, .ref (o 0)), (1, .int (nI k))] := hl
  obtain ⟨hP, hK⟩ := hpre
  refine lv_iconst (v := 0) hx hb dX9_sumOf_0 rfl ?_
  refine lv_istore_n (lv' := [(2, .int (0)), (0, .ref (o 0)), (1, .int (nI k))]) hx hb dX9_sumOf_1 rfl hl (by decide) rfl (fun ls hl => ?_)
  refine lv_iconst (v := 0) hx hb dX9_sumOf_2 rfl ?_
  refine lv_istore_n (lv' := [(3, .int (0)), (2, .int (0)), (0, .ref (o 0)), (1, .int (nI k))]) hx hb dX9_sumOf_3 rfl hl (by decide) rfl (fun ls hl => ?_)
  have cut4 : ∀ kk : Nat, ∀ (n : Nat), 7 - n < kk → (hn : (n : Int) ≤ (r 2).toInt) → ∀ (ls : Array Slot), lv_has ls 4 [(0, .ref (o 0)), (1, .int (nI k)), (2, .int (sumN (fun j => r (k + j)) n)), (3, .int (nI n))] → W pp l ee (rmN 0) ss mm ([.ref (o 0), .int (nI k)] : List Value).toArray bl mt cd ss.heap [] 0 0 (MQ bl (vp_Si (fun v => v = (sumN (fun j => r (k + j)) (cl (r 2))))) ([.ref (o 0), .int (nI k)] : List Value).toArray ss 0 0 (fun _ => False)) (F0 mm 4 ls []) := by
    intro kk
    induction kk with
    | zero => intro n hmu; exact absurd hmu (Nat.not_lt_zero _)
    | succ kk ih4 =>
      intro n hmu hn ls hl
      refine lv_iload_n hx hb dX9_sumOf_4 rfl (lv_at hl 3 rfl) ?_
      refine lv_aload_n hx hb dX9_sumOf_5 rfl (lv_at hl 0 rfl) ?_
      refine kget hC.1 hK (kP_app.mp hP).1 0 rfl rfl in_9 3 (by decide) (gw_in m_963 rfl) rfl dX9_sumOf_6 ?_
      refine lv_iconst (v := 2) hx hb dX9_sumOf_9 rfl ?_
      refine kald (v := r 2) hC.1 hK (kP_app.mp (kP_app.mp hP).2).1 0 rfl (show vp_in (nI 2) 45 from vp_in_nI (by omega) (by omega)) (congrArg r (show cl 2 = 2 from by decide)) dX9_sumOf_10 ?_
      refine lv_icmp_ge (tgt := 31) hx hb dX9_sumOf_11 (by decide) (fun c1 => ?_) (fun c1 => ?_)
      · skip
        have c1' := Int32.not_lt.mpr c1
        have hge := lp_ge (by have := hw.n6; omega) c1
        have hend : cl (r 2) = n := by have := cl_ti (i := r 2) hw.2.2.1.1; omega
        refine lv_iload_n hx hb dX9_sumOf_31 rfl (lv_at hl 2 rfl) ?_
        exact ret_roi hx hb hr hlk (by rw [hend]) dX9_sumOf_32
      · skip
        have c1' := Int32.not_le.mp c1
        have hlt := lp_lt (by have := hw.n6; omega) c1
        have hni := nut_nI hlt
        refine lv_iload_n hx hb dX9_sumOf_14 rfl (lv_at hl 2 rfl) ?_
        refine lv_aload_n hx hb dX9_sumOf_15 rfl (lv_at hl 0 rfl) ?_
        refine kget hC.1 hK (kP_app.mp hP).1 0 rfl rfl in_9 3 (by decide) (gw_in m_963 rfl) rfl dX9_sumOf_16 ?_
        refine lv_iload_n hx hb dX9_sumOf_19 rfl (lv_at hl 1 rfl) ?_
        refine lv_iload_n hx hb dX9_sumOf_20 rfl (lv_at hl 3 rfl) ?_
        refine lv_iadd hx hb dX9_sumOf_21 ?_
        refine top_i (x := (nI k) + (nI n)) (y := nI (k + n)) (nI_add k n) ?_
        refine kald (v := r (k + n)) hC.1 hK (kP_app.mp (kP_app.mp hP).2).1 0 rfl (vp_in_nI (by have := hw.n6; omega) (by omega)) (by rw [cl_nI (by have := hw.n6; omega)]) dX9_sumOf_22 ?_
        refine lv_iadd hx hb dX9_sumOf_23 ?_
        refine top_i (x := (sumN (fun j => r (k + j)) n) + (r (k + n))) (y := sumN (fun j => r (k + j)) (n + 1)) rfl ?_
        refine lv_istore_n (lv' := [(2, .int (sumN (fun j => r (k + j)) (n + 1))), (0, .ref (o 0)), (1, .int (nI k)), (3, .int (nI n))]) hx hb dX9_sumOf_24 rfl hl (by decide) rfl (fun ls hl => ?_)
        refine lv_iinc (v := nI (n + 1)) (lv' := [(3, .int (nI (n + 1))), (2, .int (sumN (fun j => r (k + j)) (n + 1))), (0, .ref (o 0)), (1, .int (nI k))]) hx hb dX9_sumOf_25 hl (k := 3) rfl (inc_nI n) (by decide) rfl (fun ls hl => ?_)
        refine lv_goto (tgt := 4) hx hb dX9_sumOf_28 (by decide) ?_
        exact ih4 (n + 1) (by have := hw.n6; omega) (by omega) _ (lv_sub hl [2, 3, 1, 0] rfl)
  exact cut4 _ 0 (Nat.lt_succ_self _) (by have := hw.2.2.1.1; exact this) _ (lv_sub hl [2, 3, 1, 0] rfl)
