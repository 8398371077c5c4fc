theorem ckX9_clear : ckV yX9_clear cX9_clear 2 (some .int) 0 := ⟨(gw_in m_1085 rfl), (gw_in m_71 rfl), ⟨(gw_in m_1083 rfl), (gw_in m_1084 rfl)⟩, by decide +kernel, by decide +kernel, by decide +kernel⟩
theorem ckX9_count : ckV yX9_count cX9_count 2 (some .int) 1 := ⟨(gw_in m_1377 rfl), (gw_in m_71 rfl), ⟨(gw_in m_1375 rfl), (gw_in m_1376 rfl)⟩, by decide +kernel, by decide +kernel, by decide +kernel⟩
theorem ckX9_yard : ckV yX9_yard cX9_yard 3 (some .int) 1 := ⟨(gw_in m_1052 rfl), (gw_in m_71 rfl), ⟨(gw_in m_1050 rfl), (gw_in m_1051 rfl)⟩, by decide +kernel, by decide +kernel, by decide +kernel⟩
theorem ckX9_player : ckV yX9_player cX9_player 3 (some .int) 2 := ⟨(gw_in m_1063 rfl), (gw_in m_71 rfl), ⟨(gw_in m_1061 rfl), (gw_in m_1062 rfl)⟩, by decide +kernel, by decide +kernel, by decide +kernel⟩
theorem ckX9_nut : ckV yX9_nut cX9_nut 5 (some .int) 4 := ⟨(gw_in m_1074 rfl), (gw_in m_71 rfl), ⟨(gw_in m_1072 rfl), (gw_in m_1073 rfl)⟩, by decide +kernel, by decide +kernel, by decide +kernel⟩
theorem ckX9_type : ckV yX9_type cX9_type 2 (some .int) 1 := ⟨(gw_in m_1081 rfl), (gw_in m_71 rfl), ⟨(gw_in m_1079 rfl), (gw_in m_1080 rfl)⟩, by decide +kernel, by decide +kernel, by decide +kernel⟩
theorem ckX9_waits : ckV yX9_waits cX9_waits 2 (some .int) 1 := ⟨(gw_in m_1197 rfl), (gw_in m_71 rfl), ⟨(gw_in m_1195 rfl), (gw_in m_1196 rfl)⟩, by decide +kernel, by decide +kernel, by decide +kernel⟩
theorem ckX9_strikes : ckV yX9_strikes cX9_strikes 3 (some .int) 2 := ⟨(gw_in m_1181 rfl), (gw_in m_71 rfl), ⟨(gw_in m_1179 rfl), (gw_in m_1180 rfl)⟩, by decide +kernel, by decide +kernel, by decide +kernel⟩
theorem ckX9_hands : ckV yX9_hands cX9_hands 4 (some .int) 2 := ⟨(gw_in m_1201 rfl), (gw_in m_71 rfl), ⟨(gw_in m_1199 rfl), (gw_in m_1200 rfl)⟩, by decide +kernel, by decide +kernel, by decide +kernel⟩
set_option maxHeartbeats 4000000 in
set_option maxRecDepth 100000 in
theorem kX9_clear (l : Launch) (g : gG) (o : Nat → Nat) (ab be : Int64) (lm ra ta : Nat) (ti fa : Int32) (um ua : Nat) (hh : Int64)  : Met l yX9_clear (.code yX9_clear cX9_clear 2 (some .int) :: gw) (rmN 0) (va_Pc [.ref (o 0)] (rwPre g (mO g o ab be lm ra ta ti fa um ua hh ++ []))) (rwQi g (mO g o ab be lm ra ta ti fa um ua hh ++ []) (mO g o ab be 0 ra ta ti fa um ua hh ++ []) (nI lm)) 0 0 (dm (mO g o ab be lm ra ta ti fa um ua hh ++ [])) := by
  refine met_start (by decide) (Nat.le_of_ble_eq_true rfl) ?_
  intro pp ee ss mm bl mt cd hC hpre ls hl
  obtain ⟨⟨hx, hb, hml, hown, hts⟩, hr, hlk, hnm⟩ := id hC
  have hl : lv_has ls 2 [(0, .ref (o 0))] := hl
  obtain ⟨hP, hK, hD⟩ := hpre
  have hS : va_S (dm (mO g o ab be lm ra ta ti fa um ua hh ++ [])) ss.heap ss.heap [] := va_S.rf
  have hD := vD_self hD
  refine lv_aload_n hx hb dX9_clear_0 rfl (lv_at hl 0 rfl) ?_
  refine kget hC.1 hK (kP_app.mp hP).1 0 rfl rfl in_9 7 (by decide) (gw_in m_967 rfl) rfl dX9_clear_1 ?_
  refine lv_istore_n (lv' := [(1, .int (nI lm)), (0, .ref (o 0))]) hx hb dX9_clear_4 rfl hl (by decide) rfl (fun ls hl => ?_)
  refine lv_aload_n hx hb dX9_clear_5 rfl (lv_at hl 1 rfl) ?_
  refine lv_iconst (v := 0) hx hb dX9_clear_6 rfl ?_
  refine kput (B' := mO g o ab be 0 ra ta ti fa um ua hh) hC.1 hK hP hD hS 0 rfl rfl in_9 tyX9 tyX9_ok nmX9 7 (by decide) (gw_in m_967 rfl) rfl (ty := .int) (by decide +kernel) rfl rfl (Nat.le_of_ble_eq_true rfl) (fun _ h => h) mO_adr dX9_clear_7 (fun H locs hP hD hS => ?_)
  refine lv_iload_n hx hb dX9_clear_10 rfl (lv_at hl 0 rfl) ?_
  exact ret_rwi hx hb hr hlk (by rfl) (hP) hS dX9_clear_11
set_option maxHeartbeats 4000000 in
set_option maxRecDepth 100000 in
theorem kX9_count (l : Launch) (g : gG) (o : Nat → Nat) (ab be : Int64) (lm ra ta : Nat) (ti fa : Int32) (um ua : Nat) (hh : Int64) (rf : Nat → Int32) (r tl : Nat → Int32) (w : Int32) (hw : Wf r) : Met l yX9_count (.code yX9_count cX9_count 2 (some .int) :: gw) (rmN 3) (va_Pc [.ref (o 0), .int (w)] (rwPre g (mO g o ab be lm ra ta ti fa um ua hh ++ (aW g (o 1) 3 rf ++ (aW g (o 2) 45 r ++ (aW g (o 5) 94 tl ++ [])))))) (rwQi g (mO g o ab be lm ra ta ti fa um ua hh ++ (aW g (o 1) 3 rf ++ (aW g (o 2) 45 r ++ (aW g (o 5) 94 tl ++ [])))) (mO g o ab be lm ra ta ti fa um ua hh ++ (aW g (o 1) 3 (if wth w 0 10 = true then rf else upd rf 0 (rf 0 + 1)) ++ (aW g (o 2) 45 r ++ (aW g (o 5) 94 tl ++ [])))) (if wth w 0 10 = true then cnM r tl um lm w else -2)) 0 0 (dm (mO g o ab be lm ra ta ti fa um ua hh ++ (aW g (o 1) 3 rf ++ (aW g (o 2) 45 r ++ (aW g (o 5) 94 tl ++ []))))) := by
  refine met_start (by decide) (Nat.le_of_ble_eq_true rfl) ?_
  intro pp ee ss mm bl mt cd hC hpre ls hl
  obtain ⟨⟨hx, hb, hml, hown, hts⟩, hr, hlk, hnm⟩ := id hC
  have hl : lv_has ls 2 [(0, .ref (o 0)), (1, .int (w))] := hl
  obtain ⟨hP, hK, hD⟩ := hpre
  have hS : va_S (dm (mO g o ab be lm ra ta ti fa um ua hh ++ (aW g (o 1) 3 rf ++ (aW g (o 2) 45 r ++ (aW g (o 5) 94 tl ++ []))))) ss.heap ss.heap [] := va_S.rf
  have hD := vD_self hD
  refine lv_iload_n hx hb dX9_count_0 rfl (lv_at hl 1 rfl) ?_
  refine lv_iconst (v := 0) hx hb dX9_count_1 rfl ?_
  refine lv_bipush (v := 10) hx hb dX9_count_2 rfl ?_
  refine ro_i (run_S (As := [.int (w), .int (0), .int (10)]) (rest := []) hC.1 ckX9_in (kX9_in l w 0 10) (gw_in m_1038 rfl) (fb_nil _) (fun _ _ _ => trivial) ⟨rfl, rfl, Nat.le_of_ble_eq_true rfl, Nat.le_of_ble_eq_true rfl⟩ rfl hl.1 rfl (Nat.le_of_ble_eq_true rfl) dX9_count_4 ⟨Nat.le_of_ble_eq_true rfl, Nat.le_of_ble_eq_true rfl⟩) ?_
  refine lv_if_eq (tgt := 18) hx hb dX9_count_7 (by decide) (fun c1 => ?_) (fun c1 => ?_)
  · skip
    have c1 := b2i_0 c1
    refine lv_aload_n hx hb dX9_count_18 rfl (lv_at hl 0 rfl) ?_
    refine lv_bipush (v := -2) hx hb dX9_count_19 rfl ?_
    refine rw_i (run_V (As := [.int (-2)]) (rest := []) hC.1 ckX9_bad (kX9_bad l g o ab be lm ra ta ti fa um ua hh rf (-2)) (gw_in m_1041 rfl) (fb_rw _ _ _) (va_recv hK.1 (kP_app.mp hP).1 (q0 := 0) rfl rfl) (fun U hU hW => ⟨by rw [hU]; exact (kP_app.mpr ⟨(kP_app.mp hP).1, (kP_app.mpr ⟨(kP_app.mp (kP_app.mp hP).2).1, kP_nil⟩)⟩), kK_warm hW hK, vD_sub (sbA _ (sbA _ (sb0 _))) hD⟩) ⟨rfl, rfl, Nat.le_of_ble_eq_true rfl, Nat.le_of_ble_eq_true rfl⟩ rfl hl.1 rfl (Nat.le_of_ble_eq_true rfl) dX9_count_21 ⟨Nat.le_of_ble_eq_true rfl, Nat.le_of_ble_eq_true rfl⟩) (adr_app rfl (adr_app aW_adr rfl)) (asc2 _ _ _) (ww' := mO g o ab be lm ra ta ti fa um ua hh ++ (aW g (o 1) 3 (upd rf 0 (rf 0 + 1)) ++ (aW g (o 2) 45 r ++ (aW g (o 5) 94 tl ++ [])))) (asc2 _ _ _) hP hD hS (fun H locs hP hD hS => ?_)
    exact ret_rwi hx hb hr hlk (by simp [c1]) (kP_eq (by simp [c1]) hP) hS dX9_count_24
  · skip
    have c1 := b2i_1 c1
    refine lv_aload_n hx hb dX9_count_10 rfl (lv_at hl 0 rfl) ?_
    refine lv_iload_n hx hb dX9_count_11 rfl (lv_at hl 1 rfl) ?_
    refine ro_i (run_V (As := [.int (w)]) (rest := []) hC.1 ckX9_counted (kX9_counted l g o ab be lm ra ta ti fa um ua hh r tl w hw) (gw_in m_1378 rfl) (fb_ro _ _ _) (va_recv hK.1 (kP_app.mp hP).1 (q0 := 0) rfl rfl) (fun U hU hW => ⟨by rw [hU]; exact (kP_app.mpr ⟨(kP_app.mp hP).1, (kP_app.mpr ⟨(kP_app.mp (kP_app.mp (kP_app.mp hP).2).2).1, (kP_app.mpr ⟨(kP_app.mp (kP_app.mp (kP_app.mp (kP_app.mp hP).2).2).2).1, (kP_mem.mpr (fun _ h => absurd h List.not_mem_nil))⟩)⟩)⟩), kK_warm hW hK⟩) ⟨rfl, rfl, Nat.le_of_ble_eq_true rfl, Nat.le_of_ble_eq_true rfl⟩ rfl hl.1 rfl (Nat.le_of_ble_eq_true rfl) dX9_count_12 ⟨Nat.le_of_ble_eq_true rfl, Nat.le_of_ble_eq_true rfl⟩) ?_
    refine lv_goto (tgt := 24) hx hb dX9_count_15 (by decide) ?_
    exact ret_rwi hx hb hr hlk (by simp [c1]) (kP_eq (by simp [c1]) hP) hS dX9_count_24
set_option maxHeartbeats 4000000 in
set_option maxRecDepth 100000 in
theorem kX9_yard (l : Launch) (g : gG) (o : Nat → Nat) (ab be : Int64) (lm ra ta : Nat) (ti fa : Int32) (um ua : Nat) (hh : Int64) (rf : Nat → Int32) (r tl : Nat → Int32) (t : Int32) : Met l yX9_yard (.code yX9_yard cX9_yard 3 (some .int) :: gw) (rmN 1) (va_Pc [.ref (o 0), .int (t)] (rwPre g (mO g o ab be lm ra ta ti fa um ua hh ++ (aW g (o 1) 3 rf ++ (aW g (o 2) 45 r ++ (aW g (o 5) 94 tl ++ [])))))) (rwQi g (mO g o ab be lm ra ta ti fa um ua hh ++ (aW g (o 1) 3 rf ++ (aW g (o 2) 45 r ++ (aW g (o 5) 94 tl ++ [])))) (mO g o ab be lm ra ta ti fa (if wth t 0 99 = true then 0 else um) ua hh ++ (aW g (o 1) 3 (if wth t 0 99 = true then rf else upd rf 0 (rf 0 + 1)) ++ (aW g (o 2) 45 (if wth t 0 99 = true then upd (fun _ => 0) 0 t else r) ++ (aW g (o 5) 94 (if wth t 0 99 = true then upd (upd (upd tl 0 0) 26 0) 63 0 else tl) ++ [])))) (if wth t 0 99 = true then r 2 else -2)) 0 0 (dm (mO g o ab be lm ra ta ti fa um ua hh ++ (aW g (o 1) 3 rf ++ (aW g (o 2) 45 r ++ (aW g (o 5) 94 tl ++ []))))) := by
  refine met_start (by decide) (Nat.le_of_ble_eq_true rfl) ?_
  intro pp ee ss mm bl mt cd hC hpre ls hl
  obtain ⟨⟨hx, hb, hml, hown, hts⟩, hr, hlk, hnm⟩ := id hC
  have hl : lv_has ls 3 [(0, .ref (o 0)), (1, .int (t))] := hl
  obtain ⟨hP, hK, hD⟩ := hpre
  have hS : va_S (dm (mO g o ab be lm ra ta ti fa um ua hh ++ (aW g (o 1) 3 rf ++ (aW g (o 2) 45 r ++ (aW g (o 5) 94 tl ++ []))))) ss.heap ss.heap [] := va_S.rf
  have hD := vD_self hD
  refine lv_iload_n hx hb dX9_yard_0 rfl (lv_at hl 1 rfl) ?_
  refine lv_iconst (v := 0) hx hb dX9_yard_1 rfl ?_
  refine lv_bipush (v := 99) hx hb dX9_yard_2 rfl ?_
  refine ro_i (run_S (As := [.int (t), .int (0), .int (99)]) (rest := []) hC.1 ckX9_in (kX9_in l t 0 99) (gw_in m_1038 rfl) (fb_nil _) (fun _ _ _ => trivial) ⟨rfl, rfl, Nat.le_of_ble_eq_true rfl, Nat.le_of_ble_eq_true rfl⟩ rfl hl.1 rfl (Nat.le_of_ble_eq_true rfl) dX9_yard_4 ⟨Nat.le_of_ble_eq_true rfl, Nat.le_of_ble_eq_true rfl⟩) ?_
  refine lv_if_ne (tgt := 17) hx hb dX9_yard_7 (by decide) (fun c1 => ?_) (fun c1 => ?_)
  · skip
    have c1 := b2i_1 c1
    refine lv_aload_n hx hb dX9_yard_17 rfl (lv_at hl 0 rfl) ?_
    refine kget hC.1 hK (kP_app.mp hP).1 0 rfl rfl in_9 3 (by decide) (gw_in m_963 rfl) rfl dX9_yard_18 ?_
    refine lv_iconst (v := 2) hx hb dX9_yard_21 rfl ?_
    refine kald (v := r 2) hC.1 hK (kP_app.mp (kP_app.mp (kP_app.mp hP).2).2).1 0 rfl (show vp_in (nI 2) 45 from vp_in_nI (by omega) (by omega)) (congrArg r (show cl 2 = 2 from by decide)) dX9_yard_22 ?_
    refine lv_istore_n (lv' := [(2, .int (r 2)), (0, .ref (o 0)), (1, .int (t))]) hx hb dX9_yard_23 rfl hl (by decide) rfl (fun ls hl => ?_)
    refine lv_aload_n hx hb dX9_yard_24 rfl (lv_at hl 1 rfl) ?_
    refine kget hC.1 hK (kP_app.mp hP).1 0 rfl rfl in_9 3 (by decide) (gw_in m_963 rfl) rfl dX9_yard_25 ?_
    refine lv_iload_n hx hb dX9_yard_28 rfl (lv_at hl 2 rfl) ?_
    have hP : kP g (aW g (o 2) 45 r ++ (mO g o ab be lm ra ta ti fa um ua hh ++ (aW g (o 1) 3 rf ++ (aW g (o 5) 94 tl ++ [])))) _ := kP_perm ((pmA _ (pm_swap _ _ _)).trans (pm_swap _ _ _)) hP
    have hD : va_D _ (aW g (o 2) 45 r ++ (mO g o ab be lm ra ta ti fa um ua hh ++ (aW g (o 1) 3 rf ++ (aW g (o 5) 94 tl ++ [])))) := vD_perm ((pmA _ (pm_swap _ _ _)).trans (pm_swap _ _ _)) hD
    refine rw_v (run_S (As := [.ref (o 2), .int (t)]) (rest := []) hC.1 ckX9_begins (kX9_begins l g (o 2) r t) (gw_in m_1053 rfl) (fb_rw _ _ _) (fun U hU hW => ⟨by rw [hU]; exact (kP_app.mpr ⟨(kP_app.mp hP).1, kP_nil⟩), kK_warm hW hK, vD_sub (sbA _ (sb0 _)) hD⟩) ⟨rfl, rfl, Nat.le_of_ble_eq_true rfl, Nat.le_of_ble_eq_true rfl⟩ rfl hl.1 rfl (Nat.le_of_ble_eq_true rfl) dX9_yard_29 ⟨Nat.le_of_ble_eq_true rfl, Nat.le_of_ble_eq_true rfl⟩) (adr_app aW_adr rfl) (asc1 _ _) (ww' := aW g (o 2) 45 (upd (fun _ => 0) 0 t) ++ (mO g o ab be lm ra ta ti fa um ua hh ++ (aW g (o 1) 3 rf ++ (aW g (o 5) 94 tl ++ [])))) (asc1 _ _) hP hD hS (fun H locs hP hD hS => ?_)
    refine lv_aload_n hx hb dX9_yard_32 rfl (lv_at hl 1 rfl) ?_
    have hP : kP g (mO g o ab be lm ra ta ti fa um ua hh ++ (aW g (o 5) 94 tl ++ (aW g (o 2) 45 (upd (fun _ => 0) 0 t) ++ (aW g (o 1) 3 rf ++ [])))) _ := kP_perm (((pm_swap _ _ _).trans (pmA _ (pmA _ (pm_swap _ _ _)))).trans (pmA _ (pm_swap _ _ _))) hP
    have hD : va_D _ (mO g o ab be lm ra ta ti fa um ua hh ++ (aW g (o 5) 94 tl ++ (aW g (o 2) 45 (upd (fun _ => 0) 0 t) ++ (aW g (o 1) 3 rf ++ [])))) := vD_perm (((pm_swap _ _ _).trans (pmA _ (pmA _ (pm_swap _ _ _)))).trans (pmA _ (pm_swap _ _ _))) hD
    refine rw_v (run_V (As := []) (rest := []) hC.1 ckX9_clearTold (kX9_clearTold l g o ab be lm ra ta ti fa um ua hh tl) (gw_in m_1056 rfl) (fb_rw _ _ _) (va_recv hK.1 (kP_app.mp hP).1 (q0 := 0) rfl rfl) (fun U hU hW => ⟨by rw [hU]; exact (kP_app.mpr ⟨(kP_app.mp hP).1, (kP_app.mpr ⟨(kP_app.mp (kP_app.mp hP).2).1, kP_nil⟩)⟩), kK_warm hW hK, vD_sub (sbA _ (sbA _ (sb0 _))) hD⟩) ⟨rfl, rfl, Nat.le_of_ble_eq_true rfl, Nat.le_of_ble_eq_true rfl⟩ rfl hl.1 rfl (Nat.le_of_ble_eq_true rfl) dX9_yard_33 ⟨Nat.le_of_ble_eq_true rfl, Nat.le_of_ble_eq_true rfl⟩) (adr_app mO_adr (adr_app aW_adr rfl)) (asc2 _ _ _) (ww' := mO g o ab be lm ra ta ti fa 0 ua hh ++ (aW g (o 5) 94 (upd (upd (upd tl 0 0) 26 0) 63 0) ++ (aW g (o 2) 45 (upd (fun _ => 0) 0 t) ++ (aW g (o 1) 3 rf ++ [])))) (asc2 _ _ _) hP hD hS (fun H locs hP hD hS => ?_)
    refine lv_iload_n hx hb dX9_yard_36 rfl (lv_at hl 0 rfl) ?_
    have hP : kP g (mO g o ab be lm ra ta ti fa 0 ua hh ++ (aW g (o 1) 3 rf ++ (aW g (o 2) 45 (upd (fun _ => 0) 0 t) ++ (aW g (o 5) 94 (upd (upd (upd tl 0 0) 26 0) 63 0) ++ [])))) _ := kP_perm (((pmA _ (pmA _ (pm_swap _ _ _))).trans (pmA _ (pm_swap _ _ _))).trans (pmA _ (pmA _ (pm_swap _ _ _)))) hP
    have hD : va_D _ (mO g o ab be lm ra ta ti fa 0 ua hh ++ (aW g (o 1) 3 rf ++ (aW g (o 2) 45 (upd (fun _ => 0) 0 t) ++ (aW g (o 5) 94 (upd (upd (upd tl 0 0) 26 0) 63 0) ++ [])))) := vD_perm (((pmA _ (pmA _ (pm_swap _ _ _))).trans (pmA _ (pm_swap _ _ _))).trans (pmA _ (pmA _ (pm_swap _ _ _)))) hD
    exact ret_rwi hx hb hr hlk (by simp [c1]) (kP_eq (by simp [c1]) hP) hS dX9_yard_37
  · skip
    have c1 := b2i_0 c1
    refine lv_aload_n hx hb dX9_yard_10 rfl (lv_at hl 0 rfl) ?_
    refine lv_bipush (v := -2) hx hb dX9_yard_11 rfl ?_
    refine rw_i (run_V (As := [.int (-2)]) (rest := []) hC.1 ckX9_bad (kX9_bad l g o ab be lm ra ta ti fa um ua hh rf (-2)) (gw_in m_1041 rfl) (fb_rw _ _ _) (va_recv hK.1 (kP_app.mp hP).1 (q0 := 0) rfl rfl) (fun U hU hW => ⟨by rw [hU]; exact (kP_app.mpr ⟨(kP_app.mp hP).1, (kP_app.mpr ⟨(kP_app.mp (kP_app.mp hP).2).1, kP_nil⟩)⟩), kK_warm hW hK, vD_sub (sbA _ (sbA _ (sb0 _))) hD⟩) ⟨rfl, rfl, Nat.le_of_ble_eq_true rfl, Nat.le_of_ble_eq_true rfl⟩ rfl hl.1 rfl (Nat.le_of_ble_eq_true rfl) dX9_yard_13 ⟨Nat.le_of_ble_eq_true rfl, Nat.le_of_ble_eq_true rfl⟩) (adr_app rfl (adr_app aW_adr rfl)) (asc2 _ _ _) (ww' := mO g o ab be lm ra ta ti fa um ua hh ++ (aW g (o 1) 3 (upd rf 0 (rf 0 + 1)) ++ (aW g (o 2) 45 r ++ (aW g (o 5) 94 tl ++ [])))) (asc2 _ _ _) hP hD hS (fun H locs hP hD hS => ?_)
    exact ret_rwi hx hb hr hlk (by simp [c1]) (kP_eq (by simp [c1]) hP) hS dX9_yard_16
set_option maxHeartbeats 4000000 in
set_option maxRecDepth 100000 in
theorem kX9_player (l : Launch) (g : gG) (o : Nat → Nat) (ab be : Int64) (lm ra ta : Nat) (ti fa : Int32) (um ua : Nat) (hh : Int64) (rf : Nat → Int32) (r : Nat → Int32) (k q : Int32) (hw : Wf r) : Met l yX9_player (.code yX9_player cX9_player 3 (some .int) :: gw) (rmN 1) (va_Pc [.ref (o 0), .int (k), .int (q)] (rwPre g (mO g o ab be lm ra ta ti fa um ua hh ++ (aW g (o 1) 3 rf ++ (aW g (o 2) 45 r ++ []))))) (rwQi g (mO g o ab be lm ra ta ti fa um ua hh ++ (aW g (o 1) 3 rf ++ (aW g (o 2) 45 r ++ []))) (mO g o ab be lm ra ta ti fa (if (wth k 0 5 && wth q 1 9) = true then (if r 1 = 3 then um else 0) else um) ua hh ++ (aW g (o 1) 3 (if (wth k 0 5 && wth q 1 9) = true then (if r 1 = 3 then upd rf 2 (rf 2 + 1) else rf) else upd rf 0 (rf 0 + 1)) ++ (aW g (o 2) 45 (if (wth k 0 5 && wth q 1 9) = true then (if r 1 = 3 then r else adP r k q) else r) ++ []))) (if (wth k 0 5 && wth q 1 9) = true then (if r 1 = 3 then -4 else r 1) else -2)) 0 0 (dm (mO g o ab be lm ra ta ti fa um ua hh ++ (aW g (o 1) 3 rf ++ (aW g (o 2) 45 r ++ [])))) := by
  refine met_start (by decide) (Nat.le_of_ble_eq_true rfl) ?_
  intro pp ee ss mm bl mt cd hC hpre ls hl
  obtain ⟨⟨hx, hb, hml, hown, hts⟩, hr, hlk, hnm⟩ := id hC
  have hl : lv_has ls 3 [(0, .ref (o 0)), (1, .int (k)), (2, .int (q))] := hl
  obtain ⟨hP, hK, hD⟩ := hpre
  have hS : va_S (dm (mO g o ab be lm ra ta ti fa um ua hh ++ (aW g (o 1) 3 rf ++ (aW g (o 2) 45 r ++ [])))) ss.heap ss.heap [] := va_S.rf
  have hD := vD_self hD
  refine lv_iload_n hx hb dX9_player_0 rfl (lv_at hl 1 rfl) ?_
  refine lv_iconst (v := 0) hx hb dX9_player_1 rfl ?_
  refine lv_iconst (v := 5) hx hb dX9_player_2 rfl ?_
  refine ro_i (run_S (As := [.int (k), .int (0), .int (5)]) (rest := []) hC.1 ckX9_in (kX9_in l k 0 5) (gw_in m_1038 rfl) (fb_nil _) (fun _ _ _ => trivial) ⟨rfl, rfl, Nat.le_of_ble_eq_true rfl, Nat.le_of_ble_eq_true rfl⟩ rfl hl.1 rfl (Nat.le_of_ble_eq_true rfl) dX9_player_3 ⟨Nat.le_of_ble_eq_true rfl, Nat.le_of_ble_eq_true rfl⟩) ?_
  refine lv_if_eq (tgt := 19) hx hb dX9_player_6 (by decide) (fun c1 => ?_) (fun c1 => ?_)
  · skip
    have c1 := b2i_0 c1
    refine lv_aload_n hx hb dX9_player_19 rfl (lv_at hl 0 rfl) ?_
    refine lv_bipush (v := -2) hx hb dX9_player_20 rfl ?_
    refine rw_i (run_V (As := [.int (-2)]) (rest := []) hC.1 ckX9_bad (kX9_bad l g o ab be lm ra ta ti fa um ua hh rf (-2)) (gw_in m_1041 rfl) (fb_rw _ _ _) (va_recv hK.1 (kP_app.mp hP).1 (q0 := 0) rfl rfl) (fun U hU hW => ⟨by rw [hU]; exact (kP_app.mpr ⟨(kP_app.mp hP).1, (kP_app.mpr ⟨(kP_app.mp (kP_app.mp hP).2).1, kP_nil⟩)⟩), kK_warm hW hK, vD_sub (sbA _ (sbA _ (sb0 _))) hD⟩) ⟨rfl, rfl, Nat.le_of_ble_eq_true rfl, Nat.le_of_ble_eq_true rfl⟩ rfl hl.1 rfl (Nat.le_of_ble_eq_true rfl) dX9_player_22 ⟨Nat.le_of_ble_eq_true rfl, Nat.le_of_ble_eq_true rfl⟩) (adr_app rfl (adr_app aW_adr rfl)) (asc2 _ _ _) (ww' := mO g o ab be lm ra ta ti fa um ua hh ++ (aW g (o 1) 3 (upd rf 0 (rf 0 + 1)) ++ (aW g (o 2) 45 r ++ []))) (asc2 _ _ _) hP hD hS (fun H locs hP hD hS => ?_)
    exact ret_rwi hx hb hr hlk (by simp [c1]) (kP_eq (by simp [c1]) hP) hS dX9_player_25
  · skip
    have c1 := b2i_1 c1
    refine lv_iload_n hx hb dX9_player_9 rfl (lv_at hl 2 rfl) ?_
    refine lv_iconst (v := 1) hx hb dX9_player_10 rfl ?_
    refine lv_bipush (v := 9) hx hb dX9_player_11 rfl ?_
    refine ro_i (run_S (As := [.int (q), .int (1), .int (9)]) (rest := []) hC.1 ckX9_in (kX9_in l q 1 9) (gw_in m_1038 rfl) (fb_nil _) (fun _ _ _ => trivial) ⟨rfl, rfl, Nat.le_of_ble_eq_true rfl, Nat.le_of_ble_eq_true rfl⟩ rfl hl.1 rfl (Nat.le_of_ble_eq_true rfl) dX9_player_13 ⟨Nat.le_of_ble_eq_true rfl, Nat.le_of_ble_eq_true rfl⟩) ?_
    refine lv_if_ne (tgt := 26) hx hb dX9_player_16 (by decide) (fun c2 => ?_) (fun c2 => ?_)
    · skip
      have c2 := b2i_1 c2
      refine lv_aload_n hx hb dX9_player_26 rfl (lv_at hl 0 rfl) ?_
      refine kget hC.1 hK (kP_app.mp hP).1 0 rfl rfl in_9 3 (by decide) (gw_in m_963 rfl) rfl dX9_player_27 ?_
      refine lv_iconst (v := 1) hx hb dX9_player_30 rfl ?_
      refine kald (v := r 1) hC.1 hK (kP_app.mp (kP_app.mp (kP_app.mp hP).2).2).1 0 rfl (show vp_in (nI 1) 45 from vp_in_nI (by omega) (by omega)) (congrArg r (show cl 1 = 1 from by decide)) dX9_player_31 ?_
      refine lv_iconst (v := 3) hx hb dX9_player_32 rfl ?_
      refine lv_icmp_ne (tgt := 41) hx hb dX9_player_33 (by decide) (fun c3 => ?_) (fun c3 => ?_)
      · skip
        refine lv_aload_n hx hb dX9_player_41 rfl (lv_at hl 0 rfl) ?_
        refine lv_iconst (v := 0) hx hb dX9_player_42 rfl ?_
        refine kput (B' := mO g o ab be lm ra ta ti fa 0 ua hh) hC.1 hK hP hD hS 0 rfl rfl in_9 tyX9 tyX9_ok nmX9 13 (by decide) (gw_in m_973 rfl) rfl (ty := .int) (by decide +kernel) rfl rfl (Nat.le_of_ble_eq_true rfl) (fun _ h => h) mO_adr dX9_player_43 (fun H locs hP hD hS => ?_)
        refine lv_aload_n hx hb dX9_player_46 rfl (lv_at hl 0 rfl) ?_
        refine kget hC.1 hK (kP_app.mp hP).1 0 rfl rfl in_9 3 (by decide) (gw_in m_963 rfl) rfl dX9_player_47 ?_
        refine lv_iload_n hx hb dX9_player_50 rfl (lv_at hl 1 rfl) ?_
        refine lv_iload_n hx hb dX9_player_51 rfl (lv_at hl 2 rfl) ?_
        have hP : kP g (aW g (o 2) 45 r ++ (mO g o ab be lm ra ta ti fa 0 ua hh ++ (aW g (o 1) 3 rf ++ []))) _ := kP_perm ((pmA _ (pm_swap _ _ _)).trans (pm_swap _ _ _)) hP
        have hD : va_D _ (aW g (o 2) 45 r ++ (mO g o ab be lm ra ta ti fa 0 ua hh ++ (aW g (o 1) 3 rf ++ []))) := vD_perm ((pmA _ (pm_swap _ _ _)).trans (pm_swap _ _ _)) hD
        refine rw_i (run_S (As := [.ref (o 2), .int (k), .int (q)]) (rest := []) hC.1 ckX9_joins (kX9_joins l g (o 2) r k q (pl_bd3 hw c3)) (gw_in m_1068 rfl) (fb_rw _ _ _) (fun U hU hW => ⟨by rw [hU]; exact (kP_app.mpr ⟨(kP_app.mp hP).1, kP_nil⟩), kK_warm hW hK, vD_sub (sbA _ (sb0 _)) hD⟩) ⟨rfl, rfl, Nat.le_of_ble_eq_true rfl, Nat.le_of_ble_eq_true rfl⟩ rfl hl.1 rfl (Nat.le_of_ble_eq_true rfl) dX9_player_52 ⟨Nat.le_of_ble_eq_true rfl, Nat.le_of_ble_eq_true rfl⟩) (adr_app aW_adr rfl) (asc1 _ _) (ww' := aW g (o 2) 45 (adP r k q) ++ (mO g o ab be lm ra ta ti fa 0 ua hh ++ (aW g (o 1) 3 rf ++ []))) (asc1 _ _) hP hD hS (fun H locs hP hD hS => ?_)
        have hP : kP g (mO g o ab be lm ra ta ti fa 0 ua hh ++ (aW g (o 1) 3 rf ++ (aW g (o 2) 45 (adP r k q) ++ []))) _ := kP_perm ((pm_swap _ _ _).trans (pmA _ (pm_swap _ _ _))) hP
        have hD : va_D _ (mO g o ab be lm ra ta ti fa 0 ua hh ++ (aW g (o 1) 3 rf ++ (aW g (o 2) 45 (adP r k q) ++ []))) := vD_perm ((pm_swap _ _ _).trans (pmA _ (pm_swap _ _ _))) hD
        exact ret_rwi hx hb hr hlk (by simp [c1, c2, c3]) (kP_eq (by simp [c1, c2, c3]) hP) hS dX9_player_55
      · skip
        refine lv_aload_n hx hb dX9_player_36 rfl (lv_at hl 0 rfl) ?_
        refine rw_i (run_V (As := []) (rest := []) hC.1 ckX9_full (kX9_full l g o ab be lm ra ta ti fa um ua hh rf) (gw_in m_1064 rfl) (fb_rw _ _ _) (va_recv hK.1 (kP_app.mp hP).1 (q0 := 0) rfl rfl) (fun U hU hW => ⟨by rw [hU]; exact (kP_app.mpr ⟨(kP_app.mp hP).1, (kP_app.mpr ⟨(kP_app.mp (kP_app.mp hP).2).1, kP_nil⟩)⟩), kK_warm hW hK, vD_sub (sbA _ (sbA _ (sb0 _))) hD⟩) ⟨rfl, rfl, Nat.le_of_ble_eq_true rfl, Nat.le_of_ble_eq_true rfl⟩ rfl hl.1 rfl (Nat.le_of_ble_eq_true rfl) dX9_player_37 ⟨Nat.le_of_ble_eq_true rfl, Nat.le_of_ble_eq_true rfl⟩) (adr_app rfl (adr_app aW_adr rfl)) (asc2 _ _ _) (ww' := mO g o ab be lm ra ta ti fa um ua hh ++ (aW g (o 1) 3 (upd rf 2 (rf 2 + 1)) ++ (aW g (o 2) 45 r ++ []))) (asc2 _ _ _) hP hD hS (fun H locs hP hD hS => ?_)
        exact ret_rwi hx hb hr hlk (by simp [c1, c2, c3]) (kP_eq (by simp [c1, c2, c3]) hP) hS dX9_player_40
    · skip
      have c2 := b2i_0 c2
      refine lv_aload_n hx hb dX9_player_19 rfl (lv_at hl 0 rfl) ?_
      refine lv_bipush (v := -2) hx hb dX9_player_20 rfl ?_
      refine rw_i (run_V (As := [.int (-2)]) (rest := []) hC.1 ckX9_bad (kX9_bad l g o ab be lm ra ta ti fa um ua hh rf (-2)) (gw_in m_1041 rfl) (fb_rw _ _ _) (va_recv hK.1 (kP_app.mp hP).1 (q0 := 0) rfl rfl) (fun U hU hW => ⟨by rw [hU]; exact (kP_app.mpr ⟨(kP_app.mp hP).1, (kP_app.mpr ⟨(kP_app.mp (kP_app.mp hP).2).1, kP_nil⟩)⟩), kK_warm hW hK, vD_sub (sbA _ (sbA _ (sb0 _))) hD⟩) ⟨rfl, rfl, Nat.le_of_ble_eq_true rfl, Nat.le_of_ble_eq_true rfl⟩ rfl hl.1 rfl (Nat.le_of_ble_eq_true rfl) dX9_player_22 ⟨Nat.le_of_ble_eq_true rfl, Nat.le_of_ble_eq_true rfl⟩) (adr_app rfl (adr_app aW_adr rfl)) (asc2 _ _ _) (ww' := mO g o ab be lm ra ta ti fa um ua hh ++ (aW g (o 1) 3 (upd rf 0 (rf 0 + 1)) ++ (aW g (o 2) 45 r ++ []))) (asc2 _ _ _) hP hD hS (fun H locs hP hD hS => ?_)
      exact ret_rwi hx hb hr hlk (by simp [c1, c2]) (kP_eq (by simp [c1, c2]) hP) hS dX9_player_25
set_option maxHeartbeats 4000000 in
set_option maxRecDepth 100000 in
theorem kX9_nut (l : Launch) (g : gG) (o : Nat → Nat) (ab be : Int64) (lm ra ta : Nat) (ti fa : Int32) (um ua : Nat) (hh : Int64) (rf : Nat → Int32) (r : Nat → Int32) (p k h w : Int32) (hw : Wf r) : Met l yX9_nut (.code yX9_nut cX9_nut 5 (some .int) :: gw) (rmN 1) (va_Pc [.ref (o 0), .int (p), .int (k), .int (h), .int (w)] (rwPre g (mO g o ab be lm ra ta ti fa um ua hh ++ (aW g (o 1) 3 rf ++ (aW g (o 2) 45 r ++ []))))) (rwQi g (mO g o ab be lm ra ta ti fa um ua hh ++ (aW g (o 1) 3 rf ++ (aW g (o 2) 45 r ++ []))) (mO g o ab be lm ra ta ti fa (if (yPl r p && wth k 0 5 && wth h 0 9 && wth w 1 9) = true then (if r 2 = 6 then um else 0) else um) ua hh ++ (aW g (o 1) 3 (if (yPl r p && wth k 0 5 && wth h 0 9 && wth w 1 9) = true then (if r 2 = 6 then upd rf 2 (rf 2 + 1) else rf) else upd rf 0 (rf 0 + 1)) ++ (aW g (o 2) 45 (if (yPl r p && wth k 0 5 && wth h 0 9 && wth w 1 9) = true then (if r 2 = 6 then r else adN r p k h w) else r) ++ []))) (if (yPl r p && wth k 0 5 && wth h 0 9 && wth w 1 9) = true then (if r 2 = 6 then -4 else r 2) else -2)) 0 0 (dm (mO g o ab be lm ra ta ti fa um ua hh ++ (aW g (o 1) 3 rf ++ (aW g (o 2) 45 r ++ [])))) := by
  refine met_start (by decide) (Nat.le_of_ble_eq_true rfl) ?_
  intro pp ee ss mm bl mt cd hC hpre ls hl
  obtain ⟨⟨hx, hb, hml, hown, hts⟩, hr, hlk, hnm⟩ := id hC
  have hl : lv_has ls 5 [(0, .ref (o 0)), (1, .int (p)), (2, .int (k)), (3, .int (h)), (4, .int (w))] := hl
  obtain ⟨hP, hK, hD⟩ := hpre
  have hS : va_S (dm (mO g o ab be lm ra ta ti fa um ua hh ++ (aW g (o 1) 3 rf ++ (aW g (o 2) 45 r ++ [])))) ss.heap ss.heap [] := va_S.rf
  have hD := vD_self hD
  refine lv_iload_n hx hb dX9_nut_0 rfl (lv_at hl 1 rfl) ?_
  refine lv_iconst (v := 0) hx hb dX9_nut_1 rfl ?_
  refine lv_aload_n hx hb dX9_nut_2 rfl (lv_at hl 0 rfl) ?_
  refine kget hC.1 hK (kP_app.mp hP).1 0 rfl rfl in_9 3 (by decide) (gw_in m_963 rfl) rfl dX9_nut_3 ?_
  refine lv_iconst (v := 1) hx hb dX9_nut_6 rfl ?_
  refine kald (v := r 1) hC.1 hK (kP_app.mp (kP_app.mp (kP_app.mp hP).2).2).1 0 rfl (show vp_in (nI 1) 45 from vp_in_nI (by omega) (by omega)) (congrArg r (show cl 1 = 1 from by decide)) dX9_nut_7 ?_
  refine lv_iconst (v := 1) hx hb dX9_nut_8 rfl ?_
  refine lv_isub hx hb dX9_nut_9 ?_
  refine ro_i (run_S (As := [.int (p), .int (0), .int ((r 1) - 1)]) (rest := []) hC.1 ckX9_in (kX9_in l p 0 ((r 1) - 1)) (gw_in m_1038 rfl) (fb_nil _) (fun _ _ _ => trivial) ⟨rfl, rfl, Nat.le_of_ble_eq_true rfl, Nat.le_of_ble_eq_true rfl⟩ rfl hl.1 rfl (Nat.le_of_ble_eq_true rfl) dX9_nut_10 ⟨Nat.le_of_ble_eq_true rfl, Nat.le_of_ble_eq_true rfl⟩) ?_
  refine top_i (x := b2i (wth p 0 ((r 1) - 1))) (y := b2i (yPl r p)) (by rw [pl_w hw]) ?_
  refine lv_if_eq (tgt := 46) hx hb dX9_nut_13 (by decide) (fun c1 => ?_) (fun c1 => ?_)
  · skip
    have c1 := b2i_0 c1
    refine lv_aload_n hx hb dX9_nut_46 rfl (lv_at hl 0 rfl) ?_
    refine lv_bipush (v := -2) hx hb dX9_nut_47 rfl ?_
    refine rw_i (run_V (As := [.int (-2)]) (rest := []) hC.1 ckX9_bad (kX9_bad l g o ab be lm ra ta ti fa um ua hh rf (-2)) (gw_in m_1041 rfl) (fb_rw _ _ _) (va_recv hK.1 (kP_app.mp hP).1 (q0 := 0) rfl rfl) (fun U hU hW => ⟨by rw [hU]; exact (kP_app.mpr ⟨(kP_app.mp hP).1, (kP_app.mpr ⟨(kP_app.mp (kP_app.mp hP).2).1, kP_nil⟩)⟩), kK_warm hW hK, vD_sub (sbA _ (sbA _ (sb0 _))) hD⟩) ⟨rfl, rfl, Nat.le_of_ble_eq_true rfl, Nat.le_of_ble_eq_true rfl⟩ rfl hl.1 rfl (Nat.le_of_ble_eq_true rfl) dX9_nut_49 ⟨Nat.le_of_ble_eq_true rfl, Nat.le_of_ble_eq_true rfl⟩) (adr_app rfl (adr_app aW_adr rfl)) (asc2 _ _ _) (ww' := mO g o ab be lm ra ta ti fa um ua hh ++ (aW g (o 1) 3 (upd rf 0 (rf 0 + 1)) ++ (aW g (o 2) 45 r ++ []))) (asc2 _ _ _) hP hD hS (fun H locs hP hD hS => ?_)
    exact ret_rwi hx hb hr hlk (by simp [c1]) (kP_eq (by simp [c1]) hP) hS dX9_nut_52
  · skip
    have c1 := b2i_1 c1
    refine lv_iload_n hx hb dX9_nut_16 rfl (lv_at hl 2 rfl) ?_
    refine lv_iconst (v := 0) hx hb dX9_nut_17 rfl ?_
    refine lv_iconst (v := 5) hx hb dX9_nut_18 rfl ?_
    refine ro_i (run_S (As := [.int (k), .int (0), .int (5)]) (rest := []) hC.1 ckX9_in (kX9_in l k 0 5) (gw_in m_1038 rfl) (fb_nil _) (fun _ _ _ => trivial) ⟨rfl, rfl, Nat.le_of_ble_eq_true rfl, Nat.le_of_ble_eq_true rfl⟩ rfl hl.1 rfl (Nat.le_of_ble_eq_true rfl) dX9_nut_19 ⟨Nat.le_of_ble_eq_true rfl, Nat.le_of_ble_eq_true rfl⟩) ?_
    refine lv_if_eq (tgt := 46) hx hb dX9_nut_22 (by decide) (fun c2 => ?_) (fun c2 => ?_)
    · skip
      have c2 := b2i_0 c2
      refine lv_aload_n hx hb dX9_nut_46 rfl (lv_at hl 0 rfl) ?_
      refine lv_bipush (v := -2) hx hb dX9_nut_47 rfl ?_
      refine rw_i (run_V (As := [.int (-2)]) (rest := []) hC.1 ckX9_bad (kX9_bad l g o ab be lm ra ta ti fa um ua hh rf (-2)) (gw_in m_1041 rfl) (fb_rw _ _ _) (va_recv hK.1 (kP_app.mp hP).1 (q0 := 0) rfl rfl) (fun U hU hW => ⟨by rw [hU]; exact (kP_app.mpr ⟨(kP_app.mp hP).1, (kP_app.mpr ⟨(kP_app.mp (kP_app.mp hP).2).1, kP_nil⟩)⟩), kK_warm hW hK, vD_sub (sbA _ (sbA _ (sb0 _))) hD⟩) ⟨rfl, rfl, Nat.le_of_ble_eq_true rfl, Nat.le_of_ble_eq_true rfl⟩ rfl hl.1 rfl (Nat.le_of_ble_eq_true rfl) dX9_nut_49 ⟨Nat.le_of_ble_eq_true rfl, Nat.le_of_ble_eq_true rfl⟩) (adr_app rfl (adr_app aW_adr rfl)) (asc2 _ _ _) (ww' := mO g o ab be lm ra ta ti fa um ua hh ++ (aW g (o 1) 3 (upd rf 0 (rf 0 + 1)) ++ (aW g (o 2) 45 r ++ []))) (asc2 _ _ _) hP hD hS (fun H locs hP hD hS => ?_)
      exact ret_rwi hx hb hr hlk (by simp [c1, c2]) (kP_eq (by simp [c1, c2]) hP) hS dX9_nut_52
    · skip
      have c2 := b2i_1 c2
      refine lv_iload_n hx hb dX9_nut_25 rfl (lv_at hl 3 rfl) ?_
      refine lv_iconst (v := 0) hx hb dX9_nut_26 rfl ?_
      refine lv_bipush (v := 9) hx hb dX9_nut_27 rfl ?_
      refine ro_i (run_S (As := [.int (h), .int (0), .int (9)]) (rest := []) hC.1 ckX9_in (kX9_in l h 0 9) (gw_in m_1038 rfl) (fb_nil _) (fun _ _ _ => trivial) ⟨rfl, rfl, Nat.le_of_ble_eq_true rfl, Nat.le_of_ble_eq_true rfl⟩ rfl hl.1 rfl (Nat.le_of_ble_eq_true rfl) dX9_nut_29 ⟨Nat.le_of_ble_eq_true rfl, Nat.le_of_ble_eq_true rfl⟩) ?_
      refine lv_if_eq (tgt := 46) hx hb dX9_nut_32 (by decide) (fun c3 => ?_) (fun c3 => ?_)
      · skip
        have c3 := b2i_0 c3
        refine lv_aload_n hx hb dX9_nut_46 rfl (lv_at hl 0 rfl) ?_
        refine lv_bipush (v := -2) hx hb dX9_nut_47 rfl ?_
        refine rw_i (run_V (As := [.int (-2)]) (rest := []) hC.1 ckX9_bad (kX9_bad l g o ab be lm ra ta ti fa um ua hh rf (-2)) (gw_in m_1041 rfl) (fb_rw _ _ _) (va_recv hK.1 (kP_app.mp hP).1 (q0 := 0) rfl rfl) (fun U hU hW => ⟨by rw [hU]; exact (kP_app.mpr ⟨(kP_app.mp hP).1, (kP_app.mpr ⟨(kP_app.mp (kP_app.mp hP).2).1, kP_nil⟩)⟩), kK_warm hW hK, vD_sub (sbA _ (sbA _ (sb0 _))) hD⟩) ⟨rfl, rfl, Nat.le_of_ble_eq_true rfl, Nat.le_of_ble_eq_true rfl⟩ rfl hl.1 rfl (Nat.le_of_ble_eq_true rfl) dX9_nut_49 ⟨Nat.le_of_ble_eq_true rfl, Nat.le_of_ble_eq_true rfl⟩) (adr_app rfl (adr_app aW_adr rfl)) (asc2 _ _ _) (ww' := mO g o ab be lm ra ta ti fa um ua hh ++ (aW g (o 1) 3 (upd rf 0 (rf 0 + 1)) ++ (aW g (o 2) 45 r ++ []))) (asc2 _ _ _) hP hD hS (fun H locs hP hD hS => ?_)
        exact ret_rwi hx hb hr hlk (by simp [c1, c2, c3]) (kP_eq (by simp [c1, c2, c3]) hP) hS dX9_nut_52
      · skip
        have c3 := b2i_1 c3
        refine lv_iload hx hb dX9_nut_35 (lv_at hl 4 rfl) ?_
        refine lv_iconst (v := 1) hx hb dX9_nut_37 rfl ?_
        refine lv_bipush (v := 9) hx hb dX9_nut_38 rfl ?_
        refine ro_i (run_S (As := [.int (w), .int (1), .int (9)]) (rest := []) hC.1 ckX9_in (kX9_in l w 1 9) (gw_in m_1038 rfl) (fb_nil _) (fun _ _ _ => trivial) ⟨rfl, rfl, Nat.le_of_ble_eq_true rfl, Nat.le_of_ble_eq_true rfl⟩ rfl hl.1 rfl (Nat.le_of_ble_eq_true rfl) dX9_nut_40 ⟨Nat.le_of_ble_eq_true rfl, Nat.le_of_ble_eq_true rfl⟩) ?_
        refine lv_if_ne (tgt := 53) hx hb dX9_nut_43 (by decide) (fun c4 => ?_) (fun c4 => ?_)
        · skip
          have c4 := b2i_1 c4
          refine lv_aload_n hx hb dX9_nut_53 rfl (lv_at hl 0 rfl) ?_
          refine kget hC.1 hK (kP_app.mp hP).1 0 rfl rfl in_9 3 (by decide) (gw_in m_963 rfl) rfl dX9_nut_54 ?_
          refine lv_iconst (v := 2) hx hb dX9_nut_57 rfl ?_
          refine kald (v := r 2) hC.1 hK (kP_app.mp (kP_app.mp (kP_app.mp hP).2).2).1 0 rfl (show vp_in (nI 2) 45 from vp_in_nI (by omega) (by omega)) (congrArg r (show cl 2 = 2 from by decide)) dX9_nut_58 ?_
          refine lv_bipush (v := 6) hx hb dX9_nut_59 rfl ?_
          refine lv_icmp_ne (tgt := 69) hx hb dX9_nut_61 (by decide) (fun c5 => ?_) (fun c5 => ?_)
          · skip
            refine lv_aload_n hx hb dX9_nut_69 rfl (lv_at hl 0 rfl) ?_
            refine lv_iconst (v := 0) hx hb dX9_nut_70 rfl ?_
            refine kput (B' := mO g o ab be lm ra ta ti fa 0 ua hh) hC.1 hK hP hD hS 0 rfl rfl in_9 tyX9 tyX9_ok nmX9 13 (by decide) (gw_in m_973 rfl) rfl (ty := .int) (by decide +kernel) rfl rfl (Nat.le_of_ble_eq_true rfl) (fun _ h => h) mO_adr dX9_nut_71 (fun H locs hP hD hS => ?_)
            refine lv_aload_n hx hb dX9_nut_74 rfl (lv_at hl 0 rfl) ?_
            refine kget hC.1 hK (kP_app.mp hP).1 0 rfl rfl in_9 3 (by decide) (gw_in m_963 rfl) rfl dX9_nut_75 ?_
            refine lv_iload_n hx hb dX9_nut_78 rfl (lv_at hl 1 rfl) ?_
            refine lv_iload_n hx hb dX9_nut_79 rfl (lv_at hl 2 rfl) ?_
            refine lv_iload_n hx hb dX9_nut_80 rfl (lv_at hl 3 rfl) ?_
            refine lv_iload hx hb dX9_nut_81 (lv_at hl 4 rfl) ?_
            have hP : kP g (aW g (o 2) 45 r ++ (mO g o ab be lm ra ta ti fa 0 ua hh ++ (aW g (o 1) 3 rf ++ []))) _ := kP_perm ((pmA _ (pm_swap _ _ _)).trans (pm_swap _ _ _)) hP
            have hD : va_D _ (aW g (o 2) 45 r ++ (mO g o ab be lm ra ta ti fa 0 ua hh ++ (aW g (o 1) 3 rf ++ []))) := vD_perm ((pmA _ (pm_swap _ _ _)).trans (pm_swap _ _ _)) hD
            refine rw_i (run_S (As := [.ref (o 2), .int (p), .int (k), .int (h), .int (w)]) (rest := []) hC.1 ckX9_comes (kX9_comes l g (o 2) r p k h w (nu_bd6 hw c5)) (gw_in m_1075 rfl) (fb_rw _ _ _) (fun U hU hW => ⟨by rw [hU]; exact (kP_app.mpr ⟨(kP_app.mp hP).1, kP_nil⟩), kK_warm hW hK, vD_sub (sbA _ (sb0 _)) hD⟩) ⟨rfl, rfl, Nat.le_of_ble_eq_true rfl, Nat.le_of_ble_eq_true rfl⟩ rfl hl.1 rfl (Nat.le_of_ble_eq_true rfl) dX9_nut_83 ⟨Nat.le_of_ble_eq_true rfl, Nat.le_of_ble_eq_true rfl⟩) (adr_app aW_adr rfl) (asc1 _ _) (ww' := aW g (o 2) 45 (adN r p k h w) ++ (mO g o ab be lm ra ta ti fa 0 ua hh ++ (aW g (o 1) 3 rf ++ []))) (asc1 _ _) hP hD hS (fun H locs hP hD hS => ?_)
            have hP : kP g (mO g o ab be lm ra ta ti fa 0 ua hh ++ (aW g (o 1) 3 rf ++ (aW g (o 2) 45 (adN r p k h w) ++ []))) _ := kP_perm ((pm_swap _ _ _).trans (pmA _ (pm_swap _ _ _))) hP
            have hD : va_D _ (mO g o ab be lm ra ta ti fa 0 ua hh ++ (aW g (o 1) 3 rf ++ (aW g (o 2) 45 (adN r p k h w) ++ []))) := vD_perm ((pm_swap _ _ _).trans (pmA _ (pm_swap _ _ _))) hD
            exact ret_rwi hx hb hr hlk (by simp [c1, c2, c3, c4, c5]) (kP_eq (by simp [c1, c2, c3, c4, c5]) hP) hS dX9_nut_86
          · skip
            refine lv_aload_n hx hb dX9_nut_64 rfl (lv_at hl 0 rfl) ?_
            refine rw_i (run_V (As := []) (rest := []) hC.1 ckX9_full (kX9_full l g o ab be lm ra ta ti fa um ua hh rf) (gw_in m_1064 rfl) (fb_rw _ _ _) (va_recv hK.1 (kP_app.mp hP).1 (q0 := 0) rfl rfl) (fun U hU hW => ⟨by rw [hU]; exact (kP_app.mpr ⟨(kP_app.mp hP).1, (kP_app.mpr ⟨(kP_app.mp (kP_app.mp hP).2).1, kP_nil⟩)⟩), kK_warm hW hK, vD_sub (sbA _ (sbA _ (sb0 _))) hD⟩) ⟨rfl, rfl, Nat.le_of_ble_eq_true rfl, Nat.le_of_ble_eq_true rfl⟩ rfl hl.1 rfl (Nat.le_of_ble_eq_true rfl) dX9_nut_65 ⟨Nat.le_of_ble_eq_true rfl, Nat.le_of_ble_eq_true rfl⟩) (adr_app rfl (adr_app aW_adr rfl)) (asc2 _ _ _) (ww' := mO g o ab be lm ra ta ti fa um ua hh ++ (aW g (o 1) 3 (upd rf 2 (rf 2 + 1)) ++ (aW g (o 2) 45 r ++ []))) (asc2 _ _ _) hP hD hS (fun H locs hP hD hS => ?_)
            exact ret_rwi hx hb hr hlk (by simp [c1, c2, c3, c4, c5]) (kP_eq (by simp [c1, c2, c3, c4, c5]) hP) hS dX9_nut_68
        · skip
          have c4 := b2i_0 c4
          refine lv_aload_n hx hb dX9_nut_46 rfl (lv_at hl 0 rfl) ?_
          refine lv_bipush (v := -2) hx hb dX9_nut_47 rfl ?_
          refine rw_i (run_V (As := [.int (-2)]) (rest := []) hC.1 ckX9_bad (kX9_bad l g o ab be lm ra ta ti fa um ua hh rf (-2)) (gw_in m_1041 rfl) (fb_rw _ _ _) (va_recv hK.1 (kP_app.mp hP).1 (q0 := 0) rfl rfl) (fun U hU hW => ⟨by rw [hU]; exact (kP_app.mpr ⟨(kP_app.mp hP).1, (kP_app.mpr ⟨(kP_app.mp (kP_app.mp hP).2).1, kP_nil⟩)⟩), kK_warm hW hK, vD_sub (sbA _ (sbA _ (sb0 _))) hD⟩) ⟨rfl, rfl, Nat.le_of_ble_eq_true rfl, Nat.le_of_ble_eq_true rfl⟩ rfl hl.1 rfl (Nat.le_of_ble_eq_true rfl) dX9_nut_49 ⟨Nat.le_of_ble_eq_true rfl, Nat.le_of_ble_eq_true rfl⟩) (adr_app rfl (adr_app aW_adr rfl)) (asc2 _ _ _) (ww' := mO g o ab be lm ra ta ti fa um ua hh ++ (aW g (o 1) 3 (upd rf 0 (rf 0 + 1)) ++ (aW g (o 2) 45 r ++ []))) (asc2 _ _ _) hP hD hS (fun H locs hP hD hS => ?_)
          exact ret_rwi hx hb hr hlk (by simp [c1, c2, c3, c4]) (kP_eq (by simp [c1, c2, c3, c4]) hP) hS dX9_nut_52
set_option maxHeartbeats 4000000 in
set_option maxRecDepth 100000 in
theorem kX9_type (l : Launch) (g : gG) (o : Nat → Nat) (ab be : Int64) (lm ra ta : Nat) (ti fa : Int32) (um ua : Nat) (hh : Int64) (rf : Nat → Int32) (tx : Nat → Int32) (c : Int32) (hl0 : lm ≤ 150) : Met l yX9_type (.code yX9_type cX9_type 2 (some .int) :: gw) (rmN 1) (va_Pc [.ref (o 0), .int (c)] (rwPre g (mO g o ab be lm ra ta ti fa um ua hh ++ (aW g (o 1) 3 rf ++ (aW g (o 6) 150 tx ++ []))))) (rwQi g (mO g o ab be lm ra ta ti fa um ua hh ++ (aW g (o 1) 3 rf ++ (aW g (o 6) 150 tx ++ []))) (mO g o ab be (if wth c 0 127 = true then (if lm = 150 then lm else lm + 1) else lm) ra ta ti fa um ua hh ++ (aW g (o 1) 3 (if wth c 0 127 = true then (if lm = 150 then upd rf 2 (rf 2 + 1) else rf) else upd rf 0 (rf 0 + 1)) ++ (aW g (o 6) 150 (if wth c 0 127 = true then (if lm = 150 then tx else upd tx lm c) else tx) ++ []))) (if wth c 0 127 = true then (if lm = 150 then -4 else nI (lm + 1)) else -2)) 0 0 (dm (mO g o ab be lm ra ta ti fa um ua hh ++ (aW g (o 1) 3 rf ++ (aW g (o 6) 150 tx ++ [])))) := by
  refine met_start (by decide) (Nat.le_of_ble_eq_true rfl) ?_
  intro pp ee ss mm bl mt cd hC hpre ls hl
  obtain ⟨⟨hx, hb, hml, hown, hts⟩, hr, hlk, hnm⟩ := id hC
  have hl : lv_has ls 2 [(0, .ref (o 0)), (1, .int (c))] := hl
  obtain ⟨hP, hK, hD⟩ := hpre
  have hS : va_S (dm (mO g o ab be lm ra ta ti fa um ua hh ++ (aW g (o 1) 3 rf ++ (aW g (o 6) 150 tx ++ [])))) ss.heap ss.heap [] := va_S.rf
  have hD := vD_self hD
  refine lv_iload_n hx hb dX9_type_0 rfl (lv_at hl 1 rfl) ?_
  refine lv_iconst (v := 0) hx hb dX9_type_1 rfl ?_
  refine lv_bipush (v := 127) hx hb dX9_type_2 rfl ?_
  refine ro_i (run_S (As := [.int (c), .int (0), .int (127)]) (rest := []) hC.1 ckX9_in (kX9_in l c 0 127) (gw_in m_1038 rfl) (fb_nil _) (fun _ _ _ => trivial) ⟨rfl, rfl, Nat.le_of_ble_eq_true rfl, Nat.le_of_ble_eq_true rfl⟩ rfl hl.1 rfl (Nat.le_of_ble_eq_true rfl) dX9_type_4 ⟨Nat.le_of_ble_eq_true rfl, Nat.le_of_ble_eq_true rfl⟩) ?_
  refine lv_if_ne (tgt := 17) hx hb dX9_type_7 (by decide) (fun c1 => ?_) (fun c1 => ?_)
  · skip
    have c1 := b2i_1 c1
    refine lv_aload_n hx hb dX9_type_17 rfl (lv_at hl 0 rfl) ?_
    refine kget hC.1 hK (kP_app.mp hP).1 0 rfl rfl in_9 7 (by decide) (gw_in m_967 rfl) rfl dX9_type_18 ?_
    refine lv_sipush (v := 150) hx hb dX9_type_21 rfl ?_
    refine lv_icmp_ne (tgt := 32) hx hb dX9_type_24 (by decide) (fun c2 => ?_) (fun c2 => ?_)
    · skip
      have c2 : ¬ lm = 150 := fun e => c2 (by rw [e]; rfl)
      refine lv_aload_n hx hb dX9_type_32 rfl (lv_at hl 0 rfl) ?_
      refine kget hC.1 hK (kP_app.mp hP).1 0 rfl rfl in_9 8 (by decide) (gw_in m_968 rfl) rfl dX9_type_33 ?_
      refine lv_aload_n hx hb dX9_type_36 rfl (lv_at hl 0 rfl) ?_
      refine kget hC.1 hK (kP_app.mp hP).1 0 rfl rfl in_9 7 (by decide) (gw_in m_967 rfl) rfl dX9_type_37 ?_
      refine lv_iload_n hx hb dX9_type_40 rfl (lv_at hl 1 rfl) ?_
      have hP : kP g (aW g (o 6) 150 tx ++ (mO g o ab be lm ra ta ti fa um ua hh ++ (aW g (o 1) 3 rf ++ []))) _ := kP_perm ((pmA _ (pm_swap _ _ _)).trans (pm_swap _ _ _)) hP
      have hD : va_D _ (aW g (o 6) 150 tx ++ (mO g o ab be lm ra ta ti fa um ua hh ++ (aW g (o 1) 3 rf ++ []))) := vD_perm ((pmA _ (pm_swap _ _ _)).trans (pm_swap _ _ _)) hD
      refine kast (B' := aW g (o 6) 150 (upd tx lm c)) hC.1 hK hP hD hS 0 rfl (vp_in_nI (by omega) (by omega)) (fun _ h => by rw [cl_nI (by omega)] at h; exact h) aW_adr dX9_type_41 (fun H locs hP hD hS => ?_)
      refine lv_aload_n hx hb dX9_type_42 rfl (lv_at hl 0 rfl) ?_
      refine lv_dup hx hb dX9_type_43 rfl ?_
      refine kget hC.1 hK (kP_app.mp (kP_app.mp hP).2).1 0 rfl rfl in_9 7 (by decide) (gw_in m_967 rfl) rfl dX9_type_44 ?_
      refine lv_iconst (v := 1) hx hb dX9_type_47 rfl ?_
      refine lv_iadd hx hb dX9_type_48 ?_
      refine top_i (x := (nI lm) + 1) (y := nI (lm + 1)) (nI_1 lm) ?_
      have hP : kP g (mO g o ab be lm ra ta ti fa um ua hh ++ (aW g (o 6) 150 (upd tx lm c) ++ (aW g (o 1) 3 rf ++ []))) _ := kP_perm (pm_swap _ _ _) hP
      have hD : va_D _ (mO g o ab be lm ra ta ti fa um ua hh ++ (aW g (o 6) 150 (upd tx lm c) ++ (aW g (o 1) 3 rf ++ []))) := vD_perm (pm_swap _ _ _) hD
      refine kput (B' := mO g o ab be (lm + 1) ra ta ti fa um ua hh) hC.1 hK hP hD hS 0 rfl rfl in_9 tyX9 tyX9_ok nmX9 7 (by decide) (gw_in m_967 rfl) rfl (ty := .int) (by decide +kernel) rfl rfl (Nat.le_of_ble_eq_true rfl) (fun _ h => h) mO_adr dX9_type_49 (fun H locs hP hD hS => ?_)
      refine lv_aload_n hx hb dX9_type_52 rfl (lv_at hl 0 rfl) ?_
      refine kget hC.1 hK (kP_app.mp hP).1 0 rfl rfl in_9 7 (by decide) (gw_in m_967 rfl) rfl dX9_type_53 ?_
      have hP : kP g (mO g o ab be (lm + 1) ra ta ti fa um ua hh ++ (aW g (o 1) 3 rf ++ (aW g (o 6) 150 (upd tx lm c) ++ []))) _ := kP_perm (pmA _ (pm_swap _ _ _)) hP
      have hD : va_D _ (mO g o ab be (lm + 1) ra ta ti fa um ua hh ++ (aW g (o 1) 3 rf ++ (aW g (o 6) 150 (upd tx lm c) ++ []))) := vD_perm (pmA _ (pm_swap _ _ _)) hD
      exact ret_rwi hx hb hr hlk (by simp [c1, c2]) (kP_eq (by simp [c1, c2]) hP) hS dX9_type_56
    · skip
      have c2 : lm = 150 := by rw [show (150 : Int32) = nI 150 from rfl, nI_eq (by omega) (by omega)] at c2; exact c2
      refine lv_aload_n hx hb dX9_type_27 rfl (lv_at hl 0 rfl) ?_
      refine rw_i (run_V (As := []) (rest := []) hC.1 ckX9_full (kX9_full l g o ab be lm ra ta ti fa um ua hh rf) (gw_in m_1064 rfl) (fb_rw _ _ _) (va_recv hK.1 (kP_app.mp hP).1 (q0 := 0) rfl rfl) (fun U hU hW => ⟨by rw [hU]; exact (kP_app.mpr ⟨(kP_app.mp hP).1, (kP_app.mpr ⟨(kP_app.mp (kP_app.mp hP).2).1, kP_nil⟩)⟩), kK_warm hW hK, vD_sub (sbA _ (sbA _ (sb0 _))) hD⟩) ⟨rfl, rfl, Nat.le_of_ble_eq_true rfl, Nat.le_of_ble_eq_true rfl⟩ rfl hl.1 rfl (Nat.le_of_ble_eq_true rfl) dX9_type_28 ⟨Nat.le_of_ble_eq_true rfl, Nat.le_of_ble_eq_true rfl⟩) (adr_app rfl (adr_app aW_adr rfl)) (asc2 _ _ _) (ww' := mO g o ab be lm ra ta ti fa um ua hh ++ (aW g (o 1) 3 (upd rf 2 (rf 2 + 1)) ++ (aW g (o 6) 150 tx ++ []))) (asc2 _ _ _) hP hD hS (fun H locs hP hD hS => ?_)
      exact ret_rwi hx hb hr hlk (by simp [c1, c2]) (kP_eq (by simp [c1, c2]) hP) hS dX9_type_31
  · skip
    have c1 := b2i_0 c1
    refine lv_aload_n hx hb dX9_type_10 rfl (lv_at hl 0 rfl) ?_
    refine lv_bipush (v := -2) hx hb dX9_type_11 rfl ?_
    refine rw_i (run_V (As := [.int (-2)]) (rest := []) hC.1 ckX9_bad (kX9_bad l g o ab be lm ra ta ti fa um ua hh rf (-2)) (gw_in m_1041 rfl) (fb_rw _ _ _) (va_recv hK.1 (kP_app.mp hP).1 (q0 := 0) rfl rfl) (fun U hU hW => ⟨by rw [hU]; exact (kP_app.mpr ⟨(kP_app.mp hP).1, (kP_app.mpr ⟨(kP_app.mp (kP_app.mp hP).2).1, kP_nil⟩)⟩), kK_warm hW hK, vD_sub (sbA _ (sbA _ (sb0 _))) hD⟩) ⟨rfl, rfl, Nat.le_of_ble_eq_true rfl, Nat.le_of_ble_eq_true rfl⟩ rfl hl.1 rfl (Nat.le_of_ble_eq_true rfl) dX9_type_13 ⟨Nat.le_of_ble_eq_true rfl, Nat.le_of_ble_eq_true rfl⟩) (adr_app rfl (adr_app aW_adr rfl)) (asc2 _ _ _) (ww' := mO g o ab be lm ra ta ti fa um ua hh ++ (aW g (o 1) 3 (upd rf 0 (rf 0 + 1)) ++ (aW g (o 6) 150 tx ++ []))) (asc2 _ _ _) hP hD hS (fun H locs hP hD hS => ?_)
    exact ret_rwi hx hb hr hlk (by simp [c1]) (kP_eq (by simp [c1]) hP) hS dX9_type_16
set_option maxHeartbeats 4000000 in
set_option maxRecDepth 100000 in
theorem kX9_waits (l : Launch) (g : gG) (o : Nat → Nat) (ab be : Int64) (lm ra ta : Nat) (ti fa : Int32) (um ua : Nat) (hh : Int64) (rf : Nat → Int32) (r ud : Nat → Int32) (n : Int32) (hu : ua < 8) (hm : um ≤ 8) : Met l yX9_waits (.code yX9_waits cX9_waits 2 (some .int) :: gw) (rmN 1) (va_Pc [.ref (o 0), .int (n)] (rwPre g (mO g o ab be lm ra ta ti fa um ua hh ++ (aW g (o 1) 3 rf ++ (aW g (o 2) 45 r ++ (aW g (o 7) 360 ud ++ [])))))) (rwQi g (mO g o ab be lm ra ta ti fa um ua hh ++ (aW g (o 1) 3 rf ++ (aW g (o 2) 45 r ++ (aW g (o 7) 360 ud ++ [])))) (mO g o ab be lm ra ta ti fa (if wth n 1 60 = true then (if um < 8 then um + 1 else um) else um) (if wth n 1 60 = true then (ua + 1) % 8 else ua) hh ++ (aW g (o 1) 3 (if wth n 1 60 = true then rf else upd rf 0 (rf 0 + 1)) ++ (aW g (o 2) 45 (if wth n 1 60 = true then upd r 0 (if 9999 < r 0 + n then 9999 else r 0 + n) else r) ++ (aW g (o 7) 360 (if wth n 1 60 = true then va_cpy r ud 0 (45 * ua) 45 else ud) ++ [])))) (if wth n 1 60 = true then (if 9999 < r 0 + n then 9999 else r 0 + n) else -2)) 0 0 (dm (mO g o ab be lm ra ta ti fa um ua hh ++ (aW g (o 1) 3 rf ++ (aW g (o 2) 45 r ++ (aW g (o 7) 360 ud ++ []))))) := by
  refine met_start (by decide) (Nat.le_of_ble_eq_true rfl) ?_
  intro pp ee ss mm bl mt cd hC hpre ls hl
  obtain ⟨⟨hx, hb, hml, hown, hts⟩, hr, hlk, hnm⟩ := id hC
  have hl : lv_has ls 2 [(0, .ref (o 0)), (1, .int (n))] := hl
  obtain ⟨hP, hK, hD⟩ := hpre
  have hS : va_S (dm (mO g o ab be lm ra ta ti fa um ua hh ++ (aW g (o 1) 3 rf ++ (aW g (o 2) 45 r ++ (aW g (o 7) 360 ud ++ []))))) ss.heap ss.heap [] := va_S.rf
  have hD := vD_self hD
  refine lv_iload_n hx hb dX9_waits_0 rfl (lv_at hl 1 rfl) ?_
  refine lv_iconst (v := 1) hx hb dX9_waits_1 rfl ?_
  refine lv_bipush (v := 60) hx hb dX9_waits_2 rfl ?_
  refine ro_i (run_S (As := [.int (n), .int (1), .int (60)]) (rest := []) hC.1 ckX9_in (kX9_in l n 1 60) (gw_in m_1038 rfl) (fb_nil _) (fun _ _ _ => trivial) ⟨rfl, rfl, Nat.le_of_ble_eq_true rfl, Nat.le_of_ble_eq_true rfl⟩ rfl hl.1 rfl (Nat.le_of_ble_eq_true rfl) dX9_waits_4 ⟨Nat.le_of_ble_eq_true rfl, Nat.le_of_ble_eq_true rfl⟩) ?_
  refine lv_if_ne (tgt := 17) hx hb dX9_waits_7 (by decide) (fun c1 => ?_) (fun c1 => ?_)
  · skip
    have c1 := b2i_1 c1
    refine lv_aload_n hx hb dX9_waits_17 rfl (lv_at hl 0 rfl) ?_
    have hP : kP g (mO g o ab be lm ra ta ti fa um ua hh ++ (aW g (o 2) 45 r ++ (aW g (o 7) 360 ud ++ (aW g (o 1) 3 rf ++ [])))) _ := kP_perm ((pmA _ (pm_swap _ _ _)).trans (pmA _ (pmA _ (pm_swap _ _ _)))) hP
    have hD : va_D _ (mO g o ab be lm ra ta ti fa um ua hh ++ (aW g (o 2) 45 r ++ (aW g (o 7) 360 ud ++ (aW g (o 1) 3 rf ++ [])))) := vD_perm ((pmA _ (pm_swap _ _ _)).trans (pmA _ (pmA _ (pm_swap _ _ _)))) hD
    refine rw_v (run_V (As := []) (rest := []) hC.1 ckX9_remember (kX9_remember l g o ab be lm ra ta ti fa um ua hh r ud hu hm) (gw_in m_1190 rfl) (fb_rw _ _ _) (va_recv hK.1 (kP_app.mp hP).1 (q0 := 0) rfl rfl) (fun U hU hW => ⟨by rw [hU]; exact (kP_app.mpr ⟨(kP_app.mp hP).1, (kP_app.mpr ⟨(kP_app.mp (kP_app.mp hP).2).1, (kP_app.mpr ⟨(kP_app.mp (kP_app.mp (kP_app.mp hP).2).2).1, kP_nil⟩)⟩)⟩), kK_warm hW hK, vD_sub (sbA _ (sbA _ (sbA _ (sb0 _)))) hD⟩) ⟨rfl, rfl, Nat.le_of_ble_eq_true rfl, Nat.le_of_ble_eq_true rfl⟩ rfl hl.1 rfl (Nat.le_of_ble_eq_true rfl) dX9_waits_18 ⟨Nat.le_of_ble_eq_true rfl, Nat.le_of_ble_eq_true rfl⟩) (adr_app mO_adr (adr_app rfl (adr_app aW_adr rfl))) (asc3 _ _ _ _) (ww' := mO g o ab be lm ra ta ti fa (if um < 8 then um + 1 else um) ((ua + 1) % 8) hh ++ (aW g (o 2) 45 r ++ (aW g (o 7) 360 (va_cpy r ud 0 (45 * ua) 45) ++ (aW g (o 1) 3 rf ++ [])))) (asc3 _ _ _ _) hP hD hS (fun H locs hP hD hS => ?_)
    refine lv_aload_n hx hb dX9_waits_21 rfl (lv_at hl 0 rfl) ?_
    refine kget hC.1 hK (kP_app.mp hP).1 0 rfl rfl in_9 3 (by decide) (gw_in m_963 rfl) rfl dX9_waits_22 ?_
    refine lv_iload_n hx hb dX9_waits_25 rfl (lv_at hl 1 rfl) ?_
    have hP : kP g (aW g (o 2) 45 r ++ (mO g o ab be lm ra ta ti fa (if um < 8 then um + 1 else um) ((ua + 1) % 8) hh ++ (aW g (o 7) 360 (va_cpy r ud 0 (45 * ua) 45) ++ (aW g (o 1) 3 rf ++ [])))) _ := kP_perm (pm_swap _ _ _) hP
    have hD : va_D _ (aW g (o 2) 45 r ++ (mO g o ab be lm ra ta ti fa (if um < 8 then um + 1 else um) ((ua + 1) % 8) hh ++ (aW g (o 7) 360 (va_cpy r ud 0 (45 * ua) 45) ++ (aW g (o 1) 3 rf ++ [])))) := vD_perm (pm_swap _ _ _) hD
    refine rw_v (run_S (As := [.ref (o 2), .int (n)]) (rest := []) hC.1 ckX9_passes (kX9_passes l g (o 2) r n) (gw_in m_1168 rfl) (fb_rw _ _ _) (fun U hU hW => ⟨by rw [hU]; exact (kP_app.mpr ⟨(kP_app.mp hP).1, kP_nil⟩), kK_warm hW hK, vD_sub (sbA _ (sb0 _)) hD⟩) ⟨rfl, rfl, Nat.le_of_ble_eq_true rfl, Nat.le_of_ble_eq_true rfl⟩ rfl hl.1 rfl (Nat.le_of_ble_eq_true rfl) dX9_waits_26 ⟨Nat.le_of_ble_eq_true rfl, Nat.le_of_ble_eq_true rfl⟩) (adr_app aW_adr rfl) (asc1 _ _) (ww' := aW g (o 2) 45 (upd r 0 (if 9999 < r 0 + n then 9999 else r 0 + n)) ++ (mO g o ab be lm ra ta ti fa (if um < 8 then um + 1 else um) ((ua + 1) % 8) hh ++ (aW g (o 7) 360 (va_cpy r ud 0 (45 * ua) 45) ++ (aW g (o 1) 3 rf ++ [])))) (asc1 _ _) hP hD hS (fun H locs hP hD hS => ?_)
    refine lv_aload_n hx hb dX9_waits_29 rfl (lv_at hl 0 rfl) ?_
    refine kget hC.1 hK (kP_app.mp (kP_app.mp hP).2).1 0 rfl rfl in_9 3 (by decide) (gw_in m_963 rfl) rfl dX9_waits_30 ?_
    refine lv_iconst (v := 0) hx hb dX9_waits_33 rfl ?_
    refine kald (v := if 9999 < r 0 + n then 9999 else r 0 + n) hC.1 hK (kP_app.mp hP).1 0 rfl (show vp_in (nI 0) 45 from vp_in_nI (by omega) (by omega)) (by rw [show cl 0 = 0 from by decide, upd_eq]) dX9_waits_34 ?_
    have hP : kP g (mO g o ab be lm ra ta ti fa (if um < 8 then um + 1 else um) ((ua + 1) % 8) hh ++ (aW g (o 1) 3 rf ++ (aW g (o 2) 45 (upd r 0 (if 9999 < r 0 + n then 9999 else r 0 + n)) ++ (aW g (o 7) 360 (va_cpy r ud 0 (45 * ua) 45) ++ [])))) _ := kP_perm (((pm_swap _ _ _).trans (pmA _ (pmA _ (pm_swap _ _ _)))).trans (pmA _ (pm_swap _ _ _))) hP
    have hD : va_D _ (mO g o ab be lm ra ta ti fa (if um < 8 then um + 1 else um) ((ua + 1) % 8) hh ++ (aW g (o 1) 3 rf ++ (aW g (o 2) 45 (upd r 0 (if 9999 < r 0 + n then 9999 else r 0 + n)) ++ (aW g (o 7) 360 (va_cpy r ud 0 (45 * ua) 45) ++ [])))) := vD_perm (((pm_swap _ _ _).trans (pmA _ (pmA _ (pm_swap _ _ _)))).trans (pmA _ (pm_swap _ _ _))) hD
    exact ret_rwi hx hb hr hlk (by simp [c1]) (kP_eq (by simp only [c1, if_true, if_false, eq_self, Bool.false_eq_true, Bool.and_true, Bool.true_and, Bool.and_false, Bool.false_and]) hP) hS dX9_waits_35
  · skip
    have c1 := b2i_0 c1
    refine lv_aload_n hx hb dX9_waits_10 rfl (lv_at hl 0 rfl) ?_
    refine lv_bipush (v := -2) hx hb dX9_waits_11 rfl ?_
    refine rw_i (run_V (As := [.int (-2)]) (rest := []) hC.1 ckX9_bad (kX9_bad l g o ab be lm ra ta ti fa um ua hh rf (-2)) (gw_in m_1041 rfl) (fb_rw _ _ _) (va_recv hK.1 (kP_app.mp hP).1 (q0 := 0) rfl rfl) (fun U hU hW => ⟨by rw [hU]; exact (kP_app.mpr ⟨(kP_app.mp hP).1, (kP_app.mpr ⟨(kP_app.mp (kP_app.mp hP).2).1, kP_nil⟩)⟩), kK_warm hW hK, vD_sub (sbA _ (sbA _ (sb0 _))) hD⟩) ⟨rfl, rfl, Nat.le_of_ble_eq_true rfl, Nat.le_of_ble_eq_true rfl⟩ rfl hl.1 rfl (Nat.le_of_ble_eq_true rfl) dX9_waits_13 ⟨Nat.le_of_ble_eq_true rfl, Nat.le_of_ble_eq_true rfl⟩) (adr_app rfl (adr_app aW_adr rfl)) (asc2 _ _ _) (ww' := mO g o ab be lm ra ta ti fa um ua hh ++ (aW g (o 1) 3 (upd rf 0 (rf 0 + 1)) ++ (aW g (o 2) 45 r ++ (aW g (o 7) 360 ud ++ [])))) (asc2 _ _ _) hP hD hS (fun H locs hP hD hS => ?_)
    exact ret_rwi hx hb hr hlk (by simp [c1]) (kP_eq (by simp only [c1, if_true, if_false, eq_self, Bool.false_eq_true, Bool.and_true, Bool.true_and, Bool.and_false, Bool.false_and]) hP) hS dX9_waits_16
set_option maxHeartbeats 4000000 in
set_option maxRecDepth 100000 in
theorem kX9_strikes (l : Launch) (g : gG) (o : Nat → Nat) (ab be : Int64) (lm ra ta : Nat) (ti fa : Int32) (um ua : Nat) (hh : Int64) (rf : Nat → Int32) (r ud : Nat → Int32) (i j : Int32) (hw : Wf r) (hu : ua < 8) (hm : um ≤ 8) : Met l yX9_strikes (.code yX9_strikes cX9_strikes 3 (some .int) :: gw) (rmN 3) (va_Pc [.ref (o 0), .int (i), .int (j)] (rwPre g (mO g o ab be lm ra ta ti fa um ua hh ++ (aW g (o 1) 3 rf ++ (aW g (o 2) 45 r ++ (aW g (o 7) 360 ud ++ [])))))) (rwQi g (mO g o ab be lm ra ta ti fa um ua hh ++ (aW g (o 1) 3 rf ++ (aW g (o 2) 45 r ++ (aW g (o 7) 360 ud ++ [])))) (mO g o ab be lm ra ta ti fa (if (yNut r i && yNut r j && decide (¬ i = j)) = true then (if yCan r i j = true then (if um < 8 then um + 1 else um) else um) else um) (if (yNut r i && yNut r j && decide (¬ i = j)) = true then (if yCan r i j = true then (ua + 1) % 8 else ua) else ua) hh ++ (aW g (o 1) 3 (if (yNut r i && yNut r j && decide (¬ i = j)) = true then (if yCan r i j = true then rf else upd rf 1 (rf 1 + 1)) else upd rf 0 (rf 0 + 1)) ++ (aW g (o 2) 45 (if (yNut r i && yNut r j && decide (¬ i = j)) = true then (if yCan r i j = true then stk r i j else r) else r) ++ (aW g (o 7) 360 (if (yNut r i && yNut r j && decide (¬ i = j)) = true then (if yCan r i j = true then va_cpy r ud 0 (45 * ua) 45 else ud) else ud) ++ [])))) (if (yNut r i && yNut r j && decide (¬ i = j)) = true then (if yCan r i j = true then stk r i j (33 + cl j) else -3) else -2)) 0 0 (dm (mO g o ab be lm ra ta ti fa um ua hh ++ (aW g (o 1) 3 rf ++ (aW g (o 2) 45 r ++ (aW g (o 7) 360 ud ++ []))))) := by
  refine met_start (by decide) (Nat.le_of_ble_eq_true rfl) ?_
  intro pp ee ss mm bl mt cd hC hpre ls hl
  obtain ⟨⟨hx, hb, hml, hown, hts⟩, hr, hlk, hnm⟩ := id hC
  have hl : lv_has ls 3 [(0, .ref (o 0)), (1, .int (i)), (2, .int (j))] := hl
  obtain ⟨hP, hK, hD⟩ := hpre
  have hS : va_S (dm (mO g o ab be lm ra ta ti fa um ua hh ++ (aW g (o 1) 3 rf ++ (aW g (o 2) 45 r ++ (aW g (o 7) 360 ud ++ []))))) ss.heap ss.heap [] := va_S.rf
  have hD := vD_self hD
  refine lv_aload_n hx hb dX9_strikes_0 rfl (lv_at hl 0 rfl) ?_
  refine lv_iload_n hx hb dX9_strikes_1 rfl (lv_at hl 1 rfl) ?_
  refine lv_iload_n hx hb dX9_strikes_2 rfl (lv_at hl 2 rfl) ?_
  refine ro_i (run_V (As := [.int (i), .int (j)]) (rest := []) hC.1 ckX9_isPair (kX9_isPair l g o ab be lm ra ta ti fa um ua hh r i j hw) (gw_in m_1182 rfl) (fb_ro _ _ _) (va_recv hK.1 (kP_app.mp hP).1 (q0 := 0) rfl rfl) (fun U hU hW => ⟨by rw [hU]; exact (kP_app.mpr ⟨(kP_app.mp hP).1, (kP_app.mpr ⟨(kP_app.mp (kP_app.mp (kP_app.mp hP).2).2).1, (kP_mem.mpr (fun _ h => absurd h List.not_mem_nil))⟩)⟩), kK_warm hW hK⟩) ⟨rfl, rfl, Nat.le_of_ble_eq_true rfl, Nat.le_of_ble_eq_true rfl⟩ rfl hl.1 rfl (Nat.le_of_ble_eq_true rfl) dX9_strikes_3 ⟨Nat.le_of_ble_eq_true rfl, Nat.le_of_ble_eq_true rfl⟩) ?_
  refine lv_if_ne (tgt := 16) hx hb dX9_strikes_6 (by decide) (fun c1 => ?_) (fun c1 => ?_)
  · skip
    have c1 := b2i_1 c1
    refine lv_aload_n hx hb dX9_strikes_16 rfl (lv_at hl 0 rfl) ?_
    refine kget hC.1 hK (kP_app.mp hP).1 0 rfl rfl in_9 3 (by decide) (gw_in m_963 rfl) rfl dX9_strikes_17 ?_
    refine lv_iload_n hx hb dX9_strikes_20 rfl (lv_at hl 1 rfl) ?_
    refine lv_iload_n hx hb dX9_strikes_21 rfl (lv_at hl 2 rfl) ?_
    refine ro_i (run_S (As := [.ref (o 2), .int (i), .int (j)]) (rest := []) hC.1 ckX9_canStrike (kX9_canStrike l g (o 2) r i j hw) (gw_in m_1136 rfl) (fb_ro _ _ _) (fun U hU hW => ⟨by rw [hU]; exact (kP_app.mp (kP_app.mp (kP_app.mp hP).2).2).1, kK_warm hW hK⟩) ⟨rfl, rfl, Nat.le_of_ble_eq_true rfl, Nat.le_of_ble_eq_true rfl⟩ rfl hl.1 rfl (Nat.le_of_ble_eq_true rfl) dX9_strikes_22 ⟨Nat.le_of_ble_eq_true rfl, Nat.le_of_ble_eq_true rfl⟩) ?_
    refine lv_if_ne (tgt := 33) hx hb dX9_strikes_25 (by decide) (fun c2 => ?_) (fun c2 => ?_)
    · skip
      have c2 := b2i_1 c2
      refine lv_aload_n hx hb dX9_strikes_33 rfl (lv_at hl 0 rfl) ?_
      have hP : kP g (mO g o ab be lm ra ta ti fa um ua hh ++ (aW g (o 2) 45 r ++ (aW g (o 7) 360 ud ++ (aW g (o 1) 3 rf ++ [])))) _ := kP_perm ((pmA _ (pm_swap _ _ _)).trans (pmA _ (pmA _ (pm_swap _ _ _)))) hP
      have hD : va_D _ (mO g o ab be lm ra ta ti fa um ua hh ++ (aW g (o 2) 45 r ++ (aW g (o 7) 360 ud ++ (aW g (o 1) 3 rf ++ [])))) := vD_perm ((pmA _ (pm_swap _ _ _)).trans (pmA _ (pmA _ (pm_swap _ _ _)))) hD
      refine rw_v (run_V (As := []) (rest := []) hC.1 ckX9_remember (kX9_remember l g o ab be lm ra ta ti fa um ua hh r ud hu hm) (gw_in m_1190 rfl) (fb_rw _ _ _) (va_recv hK.1 (kP_app.mp hP).1 (q0 := 0) rfl rfl) (fun U hU hW => ⟨by rw [hU]; exact (kP_app.mpr ⟨(kP_app.mp hP).1, (kP_app.mpr ⟨(kP_app.mp (kP_app.mp hP).2).1, (kP_app.mpr ⟨(kP_app.mp (kP_app.mp (kP_app.mp hP).2).2).1, kP_nil⟩)⟩)⟩), kK_warm hW hK, vD_sub (sbA _ (sbA _ (sbA _ (sb0 _)))) hD⟩) ⟨rfl, rfl, Nat.le_of_ble_eq_true rfl, Nat.le_of_ble_eq_true rfl⟩ rfl hl.1 rfl (Nat.le_of_ble_eq_true rfl) dX9_strikes_34 ⟨Nat.le_of_ble_eq_true rfl, Nat.le_of_ble_eq_true rfl⟩) (adr_app mO_adr (adr_app rfl (adr_app aW_adr rfl))) (asc3 _ _ _ _) (ww' := mO g o ab be lm ra ta ti fa (if um < 8 then um + 1 else um) ((ua + 1) % 8) hh ++ (aW g (o 2) 45 r ++ (aW g (o 7) 360 (va_cpy r ud 0 (45 * ua) 45) ++ (aW g (o 1) 3 rf ++ [])))) (asc3 _ _ _ _) hP hD hS (fun H locs hP hD hS => ?_)
      refine lv_aload_n hx hb dX9_strikes_37 rfl (lv_at hl 0 rfl) ?_
      refine kget hC.1 hK (kP_app.mp hP).1 0 rfl rfl in_9 3 (by decide) (gw_in m_963 rfl) rfl dX9_strikes_38 ?_
      refine lv_iload_n hx hb dX9_strikes_41 rfl (lv_at hl 1 rfl) ?_
      refine lv_iload_n hx hb dX9_strikes_42 rfl (lv_at hl 2 rfl) ?_
      have hP : kP g (aW g (o 2) 45 r ++ (mO g o ab be lm ra ta ti fa (if um < 8 then um + 1 else um) ((ua + 1) % 8) hh ++ (aW g (o 7) 360 (va_cpy r ud 0 (45 * ua) 45) ++ (aW g (o 1) 3 rf ++ [])))) _ := kP_perm (pm_swap _ _ _) hP
      have hD : va_D _ (aW g (o 2) 45 r ++ (mO g o ab be lm ra ta ti fa (if um < 8 then um + 1 else um) ((ua + 1) % 8) hh ++ (aW g (o 7) 360 (va_cpy r ud 0 (45 * ua) 45) ++ (aW g (o 1) 3 rf ++ [])))) := vD_perm (pm_swap _ _ _) hD
      refine rw_v (run_S (As := [.ref (o 2), .int (i), .int (j)]) (rest := []) hC.1 ckX9_struck (kX9_struck l g (o 2) r i j hw c2) (gw_in m_1142 rfl) (fb_rw _ _ _) (fun U hU hW => ⟨by rw [hU]; exact (kP_app.mpr ⟨(kP_app.mp hP).1, kP_nil⟩), kK_warm hW hK, vD_sub (sbA _ (sb0 _)) hD⟩) ⟨rfl, rfl, Nat.le_of_ble_eq_true rfl, Nat.le_of_ble_eq_true rfl⟩ rfl hl.1 rfl (Nat.le_of_ble_eq_true rfl) dX9_strikes_43 ⟨Nat.le_of_ble_eq_true rfl, Nat.le_of_ble_eq_true rfl⟩) (adr_app aW_adr rfl) (asc1 _ _) (ww' := aW g (o 2) 45 (stk r i j) ++ (mO g o ab be lm ra ta ti fa (if um < 8 then um + 1 else um) ((ua + 1) % 8) hh ++ (aW g (o 7) 360 (va_cpy r ud 0 (45 * ua) 45) ++ (aW g (o 1) 3 rf ++ [])))) (asc1 _ _) hP hD hS (fun H locs hP hD hS => ?_)
      refine lv_aload_n hx hb dX9_strikes_46 rfl (lv_at hl 0 rfl) ?_
      refine kget hC.1 hK (kP_app.mp (kP_app.mp hP).2).1 0 rfl rfl in_9 3 (by decide) (gw_in m_963 rfl) rfl dX9_strikes_47 ?_
      refine lv_bipush (v := 33) hx hb dX9_strikes_50 rfl ?_
      refine lv_iload_n hx hb dX9_strikes_52 rfl (lv_at hl 2 rfl) ?_
      refine lv_iadd hx hb dX9_strikes_53 ?_
      refine kald (v := stk r i j (33 + cl j)) hC.1 hK (kP_app.mp hP).1 0 rfl (ix_in (K := 33) (yCan_in2 c2 hw.n6) (by omega) (by omega)) (congrArg (stk r i j) (show cl (33 + j) = 33 + cl j from ix_cl (K := 33) (yCan_in2 (by assumption) hw.n6) (by omega))) dX9_strikes_54 ?_
      have hP : kP g (mO g o ab be lm ra ta ti fa (if um < 8 then um + 1 else um) ((ua + 1) % 8) hh ++ (aW g (o 1) 3 rf ++ (aW g (o 2) 45 (stk r i j) ++ (aW g (o 7) 360 (va_cpy r ud 0 (45 * ua) 45) ++ [])))) _ := kP_perm (((pm_swap _ _ _).trans (pmA _ (pmA _ (pm_swap _ _ _)))).trans (pmA _ (pm_swap _ _ _))) hP
      have hD : va_D _ (mO g o ab be lm ra ta ti fa (if um < 8 then um + 1 else um) ((ua + 1) % 8) hh ++ (aW g (o 1) 3 rf ++ (aW g (o 2) 45 (stk r i j) ++ (aW g (o 7) 360 (va_cpy r ud 0 (45 * ua) 45) ++ [])))) := vD_perm (((pm_swap _ _ _).trans (pmA _ (pmA _ (pm_swap _ _ _)))).trans (pmA _ (pm_swap _ _ _))) hD
      exact ret_rwi hx hb hr hlk (by simp only [c1, c2, if_true, if_false, eq_self, Bool.false_eq_true]) (kP_eq (by simp only [c1, c2, if_true, if_false, eq_self, Bool.false_eq_true, Bool.and_true, Bool.true_and, Bool.and_false, Bool.false_and]) hP) hS dX9_strikes_55
    · skip
      have c2 := b2i_0 c2
      refine lv_aload_n hx hb dX9_strikes_28 rfl (lv_at hl 0 rfl) ?_
      refine rw_i (run_V (As := []) (rest := []) hC.1 ckX9_no (kX9_no l g o ab be lm ra ta ti fa um ua hh rf) (gw_in m_1186 rfl) (fb_rw _ _ _) (va_recv hK.1 (kP_app.mp hP).1 (q0 := 0) rfl rfl) (fun U hU hW => ⟨by rw [hU]; exact (kP_app.mpr ⟨(kP_app.mp hP).1, (kP_app.mpr ⟨(kP_app.mp (kP_app.mp hP).2).1, kP_nil⟩)⟩), kK_warm hW hK, vD_sub (sbA _ (sbA _ (sb0 _))) hD⟩) ⟨rfl, rfl, Nat.le_of_ble_eq_true rfl, Nat.le_of_ble_eq_true rfl⟩ rfl hl.1 rfl (Nat.le_of_ble_eq_true rfl) dX9_strikes_29 ⟨Nat.le_of_ble_eq_true rfl, Nat.le_of_ble_eq_true rfl⟩) (adr_app rfl (adr_app aW_adr rfl)) (asc2 _ _ _) (ww' := mO g o ab be lm ra ta ti fa um ua hh ++ (aW g (o 1) 3 (upd rf 1 (rf 1 + 1)) ++ (aW g (o 2) 45 r ++ (aW g (o 7) 360 ud ++ [])))) (asc2 _ _ _) hP hD hS (fun H locs hP hD hS => ?_)
      exact ret_rwi hx hb hr hlk (by simp only [c1, c2, if_true, if_false, eq_self, Bool.false_eq_true]) (kP_eq (by simp only [c1, c2, if_true, if_false, eq_self, Bool.false_eq_true, Bool.and_true, Bool.true_and, Bool.and_false, Bool.false_and]) hP) hS dX9_strikes_32
  · skip
    have c1 := b2i_0 c1
    refine lv_aload_n hx hb dX9_strikes_9 rfl (lv_at hl 0 rfl) ?_
    refine lv_bipush (v := -2) hx hb dX9_strikes_10 rfl ?_
    refine rw_i (run_V (As := [.int (-2)]) (rest := []) hC.1 ckX9_bad (kX9_bad l g o ab be lm ra ta ti fa um ua hh rf (-2)) (gw_in m_1041 rfl) (fb_rw _ _ _) (va_recv hK.1 (kP_app.mp hP).1 (q0 := 0) rfl rfl) (fun U hU hW => ⟨by rw [hU]; exact (kP_app.mpr ⟨(kP_app.mp hP).1, (kP_app.mpr ⟨(kP_app.mp (kP_app.mp hP).2).1, kP_nil⟩)⟩), kK_warm hW hK, vD_sub (sbA _ (sbA _ (sb0 _))) hD⟩) ⟨rfl, rfl, Nat.le_of_ble_eq_true rfl, Nat.le_of_ble_eq_true rfl⟩ rfl hl.1 rfl (Nat.le_of_ble_eq_true rfl) dX9_strikes_12 ⟨Nat.le_of_ble_eq_true rfl, Nat.le_of_ble_eq_true rfl⟩) (adr_app rfl (adr_app aW_adr rfl)) (asc2 _ _ _) (ww' := mO g o ab be lm ra ta ti fa um ua hh ++ (aW g (o 1) 3 (upd rf 0 (rf 0 + 1)) ++ (aW g (o 2) 45 r ++ (aW g (o 7) 360 ud ++ [])))) (asc2 _ _ _) hP hD hS (fun H locs hP hD hS => ?_)
    exact ret_rwi hx hb hr hlk (by simp only [c1, if_true, if_false, eq_self, Bool.false_eq_true]) (kP_eq (by simp only [c1, if_true, if_false, eq_self, Bool.false_eq_true, Bool.and_true, Bool.true_and, Bool.and_false, Bool.false_and]) hP) hS dX9_strikes_15
set_option maxHeartbeats 4000000 in
set_option maxRecDepth 100000 in
theorem kX9_hands (l : Launch) (g : gG) (o : Nat → Nat) (ab be : Int64) (lm ra ta : Nat) (ti fa : Int32) (um ua : Nat) (hh : Int64) (rf : Nat → Int32) (r ud : Nat → Int32) (i q : Int32) (hw : Wf r) (hu : ua < 8) (hm : um ≤ 8) : Met l yX9_hands (.code yX9_hands cX9_hands 4 (some .int) :: gw) (rmN 2) (va_Pc [.ref (o 0), .int (i), .int (q)] (rwPre g (mO g o ab be lm ra ta ti fa um ua hh ++ (aW g (o 1) 3 rf ++ (aW g (o 2) 45 r ++ (aW g (o 7) 360 ud ++ [])))))) (rwQi g (mO g o ab be lm ra ta ti fa um ua hh ++ (aW g (o 1) 3 rf ++ (aW g (o 2) 45 r ++ (aW g (o 7) 360 ud ++ [])))) (mO g o ab be lm ra ta ti fa (if (yNut r i && yPl r q) = true then (if (decide (r (9 + cl i) = q) || mBrk r i) = true then um else (if um < 8 then um + 1 else um)) else um) (if (yNut r i && yPl r q) = true then (if (decide (r (9 + cl i) = q) || mBrk r i) = true then ua else (ua + 1) % 8) else ua) hh ++ (aW g (o 1) 3 (if (yNut r i && yPl r q) = true then (if (decide (r (9 + cl i) = q) || mBrk r i) = true then upd rf 1 (rf 1 + 1) else rf) else upd rf 0 (rf 0 + 1)) ++ (aW g (o 2) 45 (if (yNut r i && yPl r q) = true then (if (decide (r (9 + cl i) = q) || mBrk r i) = true then r else upd r (9 + cl i) q) else r) ++ (aW g (o 7) 360 (if (yNut r i && yPl r q) = true then (if (decide (r (9 + cl i) = q) || mBrk r i) = true then ud else va_cpy r ud 0 (45 * ua) 45) else ud) ++ [])))) (if (yNut r i && yPl r q) = true then (if (decide (r (9 + cl i) = q) || mBrk r i) = true then -3 else r (9 + cl i)) else -2)) 0 0 (dm (mO g o ab be lm ra ta ti fa um ua hh ++ (aW g (o 1) 3 rf ++ (aW g (o 2) 45 r ++ (aW g (o 7) 360 ud ++ []))))) := by
  refine met_start (by decide) (Nat.le_of_ble_eq_true rfl) ?_
  intro pp ee ss mm bl mt cd hC hpre ls hl
  obtain ⟨⟨hx, hb, hml, hown, hts⟩, hr, hlk, hnm⟩ := id hC
  have hl : lv_has ls 4 [(0, .ref (o 0)), (1, .int (i)), (2, .int (q))] := hl
  obtain ⟨hP, hK, hD⟩ := hpre
  have hS : va_S (dm (mO g o ab be lm ra ta ti fa um ua hh ++ (aW g (o 1) 3 rf ++ (aW g (o 2) 45 r ++ (aW g (o 7) 360 ud ++ []))))) ss.heap ss.heap [] := va_S.rf
  have hD := vD_self hD
  refine lv_aload_n hx hb dX9_hands_0 rfl (lv_at hl 0 rfl) ?_
  refine kget hC.1 hK (kP_app.mp hP).1 0 rfl rfl in_9 3 (by decide) (gw_in m_963 rfl) rfl dX9_hands_1 ?_
  refine lv_iload_n hx hb dX9_hands_4 rfl (lv_at hl 1 rfl) ?_
  refine ro_i (run_S (As := [.ref (o 2), .int (i)]) (rest := []) hC.1 ckX9_isNut (kX9_isNut l g (o 2) r i hw) (gw_in m_1139 rfl) (fb_ro _ _ _) (fun U hU hW => ⟨by rw [hU]; exact (kP_app.mp (kP_app.mp (kP_app.mp hP).2).2).1, kK_warm hW hK⟩) ⟨rfl, rfl, Nat.le_of_ble_eq_true rfl, Nat.le_of_ble_eq_true rfl⟩ rfl hl.1 rfl (Nat.le_of_ble_eq_true rfl) dX9_hands_5 ⟨Nat.le_of_ble_eq_true rfl, Nat.le_of_ble_eq_true rfl⟩) ?_
  refine lv_if_eq (tgt := 27) hx hb dX9_hands_8 (by decide) (fun c1 => ?_) (fun c1 => ?_)
  · skip
    have c1 := b2i_0 c1
    refine lv_aload_n hx hb dX9_hands_27 rfl (lv_at hl 0 rfl) ?_
    refine lv_bipush (v := -2) hx hb dX9_hands_28 rfl ?_
    refine rw_i (run_V (As := [.int (-2)]) (rest := []) hC.1 ckX9_bad (kX9_bad l g o ab be lm ra ta ti fa um ua hh rf (-2)) (gw_in m_1041 rfl) (fb_rw _ _ _) (va_recv hK.1 (kP_app.mp hP).1 (q0 := 0) rfl rfl) (fun U hU hW => ⟨by rw [hU]; exact (kP_app.mpr ⟨(kP_app.mp hP).1, (kP_app.mpr ⟨(kP_app.mp (kP_app.mp hP).2).1, kP_nil⟩)⟩), kK_warm hW hK, vD_sub (sbA _ (sbA _ (sb0 _))) hD⟩) ⟨rfl, rfl, Nat.le_of_ble_eq_true rfl, Nat.le_of_ble_eq_true rfl⟩ rfl hl.1 rfl (Nat.le_of_ble_eq_true rfl) dX9_hands_30 ⟨Nat.le_of_ble_eq_true rfl, Nat.le_of_ble_eq_true rfl⟩) (adr_app rfl (adr_app aW_adr rfl)) (asc2 _ _ _) (ww' := mO g o ab be lm ra ta ti fa um ua hh ++ (aW g (o 1) 3 (upd rf 0 (rf 0 + 1)) ++ (aW g (o 2) 45 r ++ (aW g (o 7) 360 ud ++ [])))) (asc2 _ _ _) hP hD hS (fun H locs hP hD hS => ?_)
    exact ret_rwi hx hb hr hlk (by simp [c1]) (kP_eq (by simp [c1]) hP) hS dX9_hands_33
  · skip
    have c1 := b2i_1 c1
    refine lv_iload_n hx hb dX9_hands_11 rfl (lv_at hl 2 rfl) ?_
    refine lv_iconst (v := 0) hx hb dX9_hands_12 rfl ?_
    refine lv_aload_n hx hb dX9_hands_13 rfl (lv_at hl 0 rfl) ?_
    refine kget hC.1 hK (kP_app.mp hP).1 0 rfl rfl in_9 3 (by decide) (gw_in m_963 rfl) rfl dX9_hands_14 ?_
    refine lv_iconst (v := 1) hx hb dX9_hands_17 rfl ?_
    refine kald (v := r 1) hC.1 hK (kP_app.mp (kP_app.mp (kP_app.mp hP).2).2).1 0 rfl (show vp_in (nI 1) 45 from vp_in_nI (by omega) (by omega)) (congrArg r (show cl 1 = 1 from by decide)) dX9_hands_18 ?_
    refine lv_iconst (v := 1) hx hb dX9_hands_19 rfl ?_
    refine lv_isub hx hb dX9_hands_20 ?_
    refine ro_i (run_S (As := [.int (q), .int (0), .int ((r 1) - 1)]) (rest := []) hC.1 ckX9_in (kX9_in l q 0 ((r 1) - 1)) (gw_in m_1038 rfl) (fb_nil _) (fun _ _ _ => trivial) ⟨rfl, rfl, Nat.le_of_ble_eq_true rfl, Nat.le_of_ble_eq_true rfl⟩ rfl hl.1 rfl (Nat.le_of_ble_eq_true rfl) dX9_hands_21 ⟨Nat.le_of_ble_eq_true rfl, Nat.le_of_ble_eq_true rfl⟩) ?_
    refine top_i (x := b2i (wth q 0 ((r 1) - 1))) (y := b2i (yPl r q)) (by rw [pl_w hw]) ?_
    refine lv_if_ne (tgt := 34) hx hb dX9_hands_24 (by decide) (fun c2 => ?_) (fun c2 => ?_)
    · skip
      have c2 := b2i_1 c2
      refine lv_aload_n hx hb dX9_hands_34 rfl (lv_at hl 0 rfl) ?_
      refine kget hC.1 hK (kP_app.mp hP).1 0 rfl rfl in_9 3 (by decide) (gw_in m_963 rfl) rfl dX9_hands_35 ?_
      refine lv_bipush (v := 9) hx hb dX9_hands_38 rfl ?_
      refine lv_iload_n hx hb dX9_hands_40 rfl (lv_at hl 1 rfl) ?_
      refine lv_iadd hx hb dX9_hands_41 ?_
      refine kald (v := r (9 + cl i)) hC.1 hK (kP_app.mp (kP_app.mp (kP_app.mp hP).2).2).1 0 rfl (ix_in (K := 9) (yNut_in c1 hw.n6) (by omega) (by omega)) (congrArg r (show cl (9 + i) = 9 + cl i from ix_cl (K := 9) (yNut_in c1 hw.n6) (by omega))) dX9_hands_42 ?_
      refine lv_istore_n (lv' := [(3, .int (r (9 + cl i))), (0, .ref (o 0)), (1, .int (i)), (2, .int (q))]) hx hb dX9_hands_43 rfl hl (by decide) rfl (fun ls hl => ?_)
      refine lv_iload_n hx hb dX9_hands_44 rfl (lv_at hl 0 rfl) ?_
      refine lv_iload_n hx hb dX9_hands_45 rfl (lv_at hl 3 rfl) ?_
      refine lv_icmp_eq (tgt := 60) hx hb dX9_hands_46 (by decide) (fun c3 => ?_) (fun c3 => ?_)
      · skip
        refine lv_aload_n hx hb dX9_hands_60 rfl (lv_at hl 1 rfl) ?_
        refine rw_i (run_V (As := []) (rest := []) hC.1 ckX9_no (kX9_no l g o ab be lm ra ta ti fa um ua hh rf) (gw_in m_1186 rfl) (fb_rw _ _ _) (va_recv hK.1 (kP_app.mp hP).1 (q0 := 0) rfl rfl) (fun U hU hW => ⟨by rw [hU]; exact (kP_app.mpr ⟨(kP_app.mp hP).1, (kP_app.mpr ⟨(kP_app.mp (kP_app.mp hP).2).1, kP_nil⟩)⟩), kK_warm hW hK, vD_sub (sbA _ (sbA _ (sb0 _))) hD⟩) ⟨rfl, rfl, Nat.le_of_ble_eq_true rfl, Nat.le_of_ble_eq_true rfl⟩ rfl hl.1 rfl (Nat.le_of_ble_eq_true rfl) dX9_hands_61 ⟨Nat.le_of_ble_eq_true rfl, Nat.le_of_ble_eq_true rfl⟩) (adr_app rfl (adr_app aW_adr rfl)) (asc2 _ _ _) (ww' := mO g o ab be lm ra ta ti fa um ua hh ++ (aW g (o 1) 3 (upd rf 1 (rf 1 + 1)) ++ (aW g (o 2) 45 r ++ (aW g (o 7) 360 ud ++ [])))) (asc2 _ _ _) hP hD hS (fun H locs hP hD hS => ?_)
        exact ret_rwi hx hb hr hlk (by simp [c1, c2, c3]) (kP_eq (by simp [c1, c2, c3]) hP) hS dX9_hands_64
      · skip
        refine lv_aload_n hx hb dX9_hands_49 rfl (lv_at hl 1 rfl) ?_
        refine kget hC.1 hK (kP_app.mp hP).1 0 rfl rfl in_9 3 (by decide) (gw_in m_963 rfl) rfl dX9_hands_50 ?_
        refine lv_iload_n hx hb dX9_hands_53 rfl (lv_at hl 2 rfl) ?_
        refine ro_i (run_S (As := [.ref (o 2), .int (i)]) (rest := []) hC.1 ckX9_isBroken (kX9_isBroken l g (o 2) r i (yNut_in c1 hw.n6)) (gw_in m_1133 rfl) (fb_ro _ _ _) (fun U hU hW => ⟨by rw [hU]; exact (kP_app.mp (kP_app.mp (kP_app.mp hP).2).2).1, kK_warm hW hK⟩) ⟨rfl, rfl, Nat.le_of_ble_eq_true rfl, Nat.le_of_ble_eq_true rfl⟩ rfl hl.1 rfl (Nat.le_of_ble_eq_true rfl) dX9_hands_54 ⟨Nat.le_of_ble_eq_true rfl, Nat.le_of_ble_eq_true rfl⟩) ?_
        refine lv_if_eq (tgt := 65) hx hb dX9_hands_57 (by decide) (fun c4 => ?_) (fun c4 => ?_)
        · skip
          have c4 := b2i_0 c4
          refine lv_aload_n hx hb dX9_hands_65 rfl (lv_at hl 1 rfl) ?_
          have hP : kP g (mO g o ab be lm ra ta ti fa um ua hh ++ (aW g (o 2) 45 r ++ (aW g (o 7) 360 ud ++ (aW g (o 1) 3 rf ++ [])))) _ := kP_perm ((pmA _ (pm_swap _ _ _)).trans (pmA _ (pmA _ (pm_swap _ _ _)))) hP
          have hD : va_D _ (mO g o ab be lm ra ta ti fa um ua hh ++ (aW g (o 2) 45 r ++ (aW g (o 7) 360 ud ++ (aW g (o 1) 3 rf ++ [])))) := vD_perm ((pmA _ (pm_swap _ _ _)).trans (pmA _ (pmA _ (pm_swap _ _ _)))) hD
          refine rw_v (run_V (As := []) (rest := []) hC.1 ckX9_remember (kX9_remember l g o ab be lm ra ta ti fa um ua hh r ud hu hm) (gw_in m_1190 rfl) (fb_rw _ _ _) (va_recv hK.1 (kP_app.mp hP).1 (q0 := 0) rfl rfl) (fun U hU hW => ⟨by rw [hU]; exact (kP_app.mpr ⟨(kP_app.mp hP).1, (kP_app.mpr ⟨(kP_app.mp (kP_app.mp hP).2).1, (kP_app.mpr ⟨(kP_app.mp (kP_app.mp (kP_app.mp hP).2).2).1, kP_nil⟩)⟩)⟩), kK_warm hW hK, vD_sub (sbA _ (sbA _ (sbA _ (sb0 _)))) hD⟩) ⟨rfl, rfl, Nat.le_of_ble_eq_true rfl, Nat.le_of_ble_eq_true rfl⟩ rfl hl.1 rfl (Nat.le_of_ble_eq_true rfl) dX9_hands_66 ⟨Nat.le_of_ble_eq_true rfl, Nat.le_of_ble_eq_true rfl⟩) (adr_app mO_adr (adr_app rfl (adr_app aW_adr rfl))) (asc3 _ _ _ _) (ww' := mO g o ab be lm ra ta ti fa (if um < 8 then um + 1 else um) ((ua + 1) % 8) hh ++ (aW g (o 2) 45 r ++ (aW g (o 7) 360 (va_cpy r ud 0 (45 * ua) 45) ++ (aW g (o 1) 3 rf ++ [])))) (asc3 _ _ _ _) hP hD hS (fun H locs hP hD hS => ?_)
          refine lv_aload_n hx hb dX9_hands_69 rfl (lv_at hl 1 rfl) ?_
          refine kget hC.1 hK (kP_app.mp hP).1 0 rfl rfl in_9 3 (by decide) (gw_in m_963 rfl) rfl dX9_hands_70 ?_
          refine lv_bipush (v := 9) hx hb dX9_hands_73 rfl ?_
          refine lv_iload_n hx hb dX9_hands_75 rfl (lv_at hl 2 rfl) ?_
          refine lv_iadd hx hb dX9_hands_76 ?_
          refine lv_iload_n hx hb dX9_hands_77 rfl (lv_at hl 3 rfl) ?_
          have hP : kP g (aW g (o 2) 45 r ++ (mO g o ab be lm ra ta ti fa (if um < 8 then um + 1 else um) ((ua + 1) % 8) hh ++ (aW g (o 7) 360 (va_cpy r ud 0 (45 * ua) 45) ++ (aW g (o 1) 3 rf ++ [])))) _ := kP_perm (pm_swap _ _ _) hP
          have hD : va_D _ (aW g (o 2) 45 r ++ (mO g o ab be lm ra ta ti fa (if um < 8 then um + 1 else um) ((ua + 1) % 8) hh ++ (aW g (o 7) 360 (va_cpy r ud 0 (45 * ua) 45) ++ (aW g (o 1) 3 rf ++ [])))) := vD_perm (pm_swap _ _ _) hD
          refine kast (B' := aW g (o 2) 45 (upd r (9 + cl i) q)) hC.1 hK hP hD hS 0 rfl (ix_in (K := 9) (yNut_in c1 hw.n6) (by omega) (by omega)) (fun _ h => by rw [(show cl (9 + i) = 9 + cl i from ix_cl (K := 9) (yNut_in c1 hw.n6) (by omega))] at h; exact h) aW_adr dX9_hands_78 (fun H locs hP hD hS => ?_)
          refine lv_iload_n hx hb dX9_hands_79 rfl (lv_at hl 0 rfl) ?_
          have hP : kP g (mO g o ab be lm ra ta ti fa (if um < 8 then um + 1 else um) ((ua + 1) % 8) hh ++ (aW g (o 1) 3 rf ++ (aW g (o 2) 45 (upd r (9 + cl i) q) ++ (aW g (o 7) 360 (va_cpy r ud 0 (45 * ua) 45) ++ [])))) _ := kP_perm (((pm_swap _ _ _).trans (pmA _ (pmA _ (pm_swap _ _ _)))).trans (pmA _ (pm_swap _ _ _))) hP
          have hD : va_D _ (mO g o ab be lm ra ta ti fa (if um < 8 then um + 1 else um) ((ua + 1) % 8) hh ++ (aW g (o 1) 3 rf ++ (aW g (o 2) 45 (upd r (9 + cl i) q) ++ (aW g (o 7) 360 (va_cpy r ud 0 (45 * ua) 45) ++ [])))) := vD_perm (((pm_swap _ _ _).trans (pmA _ (pmA _ (pm_swap _ _ _)))).trans (pmA _ (pm_swap _ _ _))) hD
          exact ret_rwi hx hb hr hlk (by simp [c1, c2, c3, c4]) (kP_eq (by simp [c1, c2, c3, c4]) hP) hS dX9_hands_80
        · skip
          have c4 := b2i_1 c4
          refine lv_aload_n hx hb dX9_hands_60 rfl (lv_at hl 1 rfl) ?_
          refine rw_i (run_V (As := []) (rest := []) hC.1 ckX9_no (kX9_no l g o ab be lm ra ta ti fa um ua hh rf) (gw_in m_1186 rfl) (fb_rw _ _ _) (va_recv hK.1 (kP_app.mp hP).1 (q0 := 0) rfl rfl) (fun U hU hW => ⟨by rw [hU]; exact (kP_app.mpr ⟨(kP_app.mp hP).1, (kP_app.mpr ⟨(kP_app.mp (kP_app.mp hP).2).1, kP_nil⟩)⟩), kK_warm hW hK, vD_sub (sbA _ (sbA _ (sb0 _))) hD⟩) ⟨rfl, rfl, Nat.le_of_ble_eq_true rfl, Nat.le_of_ble_eq_true rfl⟩ rfl hl.1 rfl (Nat.le_of_ble_eq_true rfl) dX9_hands_61 ⟨Nat.le_of_ble_eq_true rfl, Nat.le_of_ble_eq_true rfl⟩) (adr_app rfl (adr_app aW_adr rfl)) (asc2 _ _ _) (ww' := mO g o ab be lm ra ta ti fa um ua hh ++ (aW g (o 1) 3 (upd rf 1 (rf 1 + 1)) ++ (aW g (o 2) 45 r ++ (aW g (o 7) 360 ud ++ [])))) (asc2 _ _ _) hP hD hS (fun H locs hP hD hS => ?_)
          exact ret_rwi hx hb hr hlk (by simp [c1, c2, c3, c4]) (kP_eq (by simp [c1, c2, c3, c4]) hP) hS dX9_hands_64
    · skip
      have c2 := b2i_0 c2
      refine lv_aload_n hx hb dX9_hands_27 rfl (lv_at hl 0 rfl) ?_
      refine lv_bipush (v := -2) hx hb dX9_hands_28 rfl ?_
      refine rw_i (run_V (As := [.int (-2)]) (rest := []) hC.1 ckX9_bad (kX9_bad l g o ab be lm ra ta ti fa um ua hh rf (-2)) (gw_in m_1041 rfl) (fb_rw _ _ _) (va_recv hK.1 (kP_app.mp hP).1 (q0 := 0) rfl rfl) (fun U hU hW => ⟨by rw [hU]; exact (kP_app.mpr ⟨(kP_app.mp hP).1, (kP_app.mpr ⟨(kP_app.mp (kP_app.mp hP).2).1, kP_nil⟩)⟩), kK_warm hW hK, vD_sub (sbA _ (sbA _ (sb0 _))) hD⟩) ⟨rfl, rfl, Nat.le_of_ble_eq_true rfl, Nat.le_of_ble_eq_true rfl⟩ rfl hl.1 rfl (Nat.le_of_ble_eq_true rfl) dX9_hands_30 ⟨Nat.le_of_ble_eq_true rfl, Nat.le_of_ble_eq_true rfl⟩) (adr_app rfl (adr_app aW_adr rfl)) (asc2 _ _ _) (ww' := mO g o ab be lm ra ta ti fa um ua hh ++ (aW g (o 1) 3 (upd rf 0 (rf 0 + 1)) ++ (aW g (o 2) 45 r ++ (aW g (o 7) 360 ud ++ [])))) (asc2 _ _ _) hP hD hS (fun H locs hP hD hS => ?_)
      exact ret_rwi hx hb hr hlk (by simp [c1, c2]) (kP_eq (by simp [c1, c2]) hP) hS dX9_hands_33
