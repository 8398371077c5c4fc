theorem ckX9_lasts : ckV yX9_lasts cX9_lasts 4 (some .int) 3 := ⟨(gw_in m_1235 rfl), (gw_in m_71 rfl), ⟨(gw_in m_1233 rfl), (gw_in m_1234 rfl)⟩, by decide +kernel, by decide +kernel, by decide +kernel⟩
theorem ckX9_bout : ckV yX9_bout cX9_bout 4 (some .int) 3 := ⟨(gw_in m_1249 rfl), (gw_in m_71 rfl), ⟨(gw_in m_1247 rfl), (gw_in m_1248 rfl)⟩, by decide +kernel, by decide +kernel, by decide +kernel⟩
set_option maxHeartbeats 4000000 in
set_option maxRecDepth 100000 in
theorem kX9_lasts (l : Launch) (g : gG) (o : Nat → Nat) (ab be : Int64) (lm ra ta : Nat) (ti fa : Int32) (um ua : Nat) (hh : Int64) (rf : Nat → Int32) (r tr : Nat → Int32) (i j w : Int32) (hw : Wf r) : Met l yX9_lasts (.code yX9_lasts cX9_lasts 4 (some .int) :: gw) (rmN 5) (va_Pc [.ref (o 0), .int (i), .int (j), .int (w)] (rwPre g (mO g o ab be lm ra ta ti fa um ua hh ++ (aW g (o 1) 3 rf ++ (aW g (o 2) 45 r ++ (aW g (o 3) 45 tr ++ [])))))) (rxQi g (mO g o ab be lm ra ta ti fa um ua hh ++ (aW g (o 1) 3 rf ++ (aW g (o 2) 45 r ++ (aW g (o 3) 45 tr ++ [])))) (fun u9 : (Nat → Int32) => mO g o ab be lm ra ta ti fa um ua hh ++ (aW g (o 1) 3 (if (yNut r i && yNut r j && decide (¬ i = j) && wth w 0 1) = true then rf else upd rf 0 (rf 0 + 1)) ++ (aW g (o 2) 45 r ++ (aW g (o 3) 45 u9 ++ [])))) (if (yNut r i && yNut r j && decide (¬ i = j) && wth w 0 1) = true then (if yCan r i j = true then enM (btF false i j 60 0 r) i j w else -1) else -2)) 0 0 (dm (mO g o ab be lm ra ta ti fa um ua hh ++ (aW g (o 1) 3 rf ++ (aW g (o 2) 45 r ++ (aW g (o 3) 45 tr ++ []))))) := by
  refine met_start (by decide) (Nat.le_of_ble_eq_true rfl) ?_
  intro pp ee ss mm bl mt cd hC hpre ls hl
  obtain ⟨⟨hx, hb, hml, hown, hts⟩, hr, hlk, hnm⟩ := id hC
  have hl : lv_has ls 4 [(0, .ref (o 0)), (1, .int (i)), (2, .int (j)), (3, .int (w))] := hl
  obtain ⟨hP, hK, hD⟩ := hpre
  have hS : va_S (dm (mO g o ab be lm ra ta ti fa um ua hh ++ (aW g (o 1) 3 rf ++ (aW g (o 2) 45 r ++ (aW g (o 3) 45 tr ++ []))))) ss.heap ss.heap [] := va_S.rf
  have hD := vD_self hD
  refine lv_aload_n hx hb dX9_lasts_0 rfl (lv_at hl 0 rfl) ?_
  refine lv_iload_n hx hb dX9_lasts_1 rfl (lv_at hl 1 rfl) ?_
  refine lv_iload_n hx hb dX9_lasts_2 rfl (lv_at hl 2 rfl) ?_
  refine ro_i (run_V (As := [.int (i), .int (j)]) (rest := []) hC.1 ckX9_isPair (kX9_isPair l g o ab be lm ra ta ti fa um ua hh r i j hw) (gw_in m_1182 rfl) (fb_ro _ _ _) (va_recv hK.1 (kP_app.mp hP).1 (q0 := 0) rfl rfl) (fun U hU hW => ⟨by rw [hU]; exact (kP_app.mpr ⟨(kP_app.mp hP).1, (kP_app.mpr ⟨(kP_app.mp (kP_app.mp (kP_app.mp hP).2).2).1, (kP_mem.mpr (fun _ h => absurd h List.not_mem_nil))⟩)⟩), kK_warm hW hK⟩) ⟨rfl, rfl, Nat.le_of_ble_eq_true rfl, Nat.le_of_ble_eq_true rfl⟩ rfl hl.1 rfl (Nat.le_of_ble_eq_true rfl) dX9_lasts_3 ⟨Nat.le_of_ble_eq_true rfl, Nat.le_of_ble_eq_true rfl⟩) ?_
  refine lv_if_eq (tgt := 29) hx hb dX9_lasts_6 (by decide) (fun c1 => ?_) (fun c1 => ?_)
  · skip
    have c1 := b2i_0 c1
    refine lv_aload_n hx hb dX9_lasts_29 rfl (lv_at hl 0 rfl) ?_
    refine lv_bipush (v := -2) hx hb dX9_lasts_30 rfl ?_
    refine rw_i (run_V (As := [.int (-2)]) (rest := []) hC.1 ckX9_bad (kX9_bad l g o ab be lm ra ta ti fa um ua hh rf (-2)) (gw_in m_1041 rfl) (fb_rw _ _ _) (va_recv hK.1 (kP_app.mp hP).1 (q0 := 0) rfl rfl) (fun U hU hW => ⟨by rw [hU]; exact (kP_app.mpr ⟨(kP_app.mp hP).1, (kP_app.mpr ⟨(kP_app.mp (kP_app.mp hP).2).1, kP_nil⟩)⟩), kK_warm hW hK, vD_sub (sbA _ (sbA _ (sb0 _))) hD⟩) ⟨rfl, rfl, Nat.le_of_ble_eq_true rfl, Nat.le_of_ble_eq_true rfl⟩ rfl hl.1 rfl (Nat.le_of_ble_eq_true rfl) dX9_lasts_32 ⟨Nat.le_of_ble_eq_true rfl, Nat.le_of_ble_eq_true rfl⟩) (adr_app rfl (adr_app aW_adr rfl)) (asc2 _ _ _) (ww' := mO g o ab be lm ra ta ti fa um ua hh ++ (aW g (o 1) 3 (upd rf 0 (rf 0 + 1)) ++ (aW g (o 2) 45 r ++ (aW g (o 3) 45 tr ++ [])))) (asc2 _ _ _) hP hD hS (fun H locs hP hD hS => ?_)
    exact ret_rxi (S := (Nat → Int32)) tr hx hb hr hlk (by simp only [c1, if_true, if_false, eq_self, Bool.false_eq_true, Bool.and_true, Bool.true_and, Bool.and_false, Bool.false_and]) (kP_eq (by simp only [c1, if_true, if_false, eq_self, Bool.false_eq_true, Bool.and_true, Bool.true_and, Bool.and_false, Bool.false_and]) hP) hS dX9_lasts_35
  · skip
    have c1 := b2i_1 c1
    refine lv_iload_n hx hb dX9_lasts_9 rfl (lv_at hl 3 rfl) ?_
    refine lv_iconst (v := 0) hx hb dX9_lasts_10 rfl ?_
    refine lv_iconst (v := 1) hx hb dX9_lasts_11 rfl ?_
    refine ro_i (run_S (As := [.int (w), .int (0), .int (1)]) (rest := []) hC.1 ckX9_in (kX9_in l w 0 1) (gw_in m_1038 rfl) (fb_nil _) (fun _ _ _ => trivial) ⟨rfl, rfl, Nat.le_of_ble_eq_true rfl, Nat.le_of_ble_eq_true rfl⟩ rfl hl.1 rfl (Nat.le_of_ble_eq_true rfl) dX9_lasts_12 ⟨Nat.le_of_ble_eq_true rfl, Nat.le_of_ble_eq_true rfl⟩) ?_
    refine lv_if_eq (tgt := 29) hx hb dX9_lasts_15 (by decide) (fun c2 => ?_) (fun c2 => ?_)
    · skip
      have c2 := b2i_0 c2
      refine lv_aload_n hx hb dX9_lasts_29 rfl (lv_at hl 0 rfl) ?_
      refine lv_bipush (v := -2) hx hb dX9_lasts_30 rfl ?_
      refine rw_i (run_V (As := [.int (-2)]) (rest := []) hC.1 ckX9_bad (kX9_bad l g o ab be lm ra ta ti fa um ua hh rf (-2)) (gw_in m_1041 rfl) (fb_rw _ _ _) (va_recv hK.1 (kP_app.mp hP).1 (q0 := 0) rfl rfl) (fun U hU hW => ⟨by rw [hU]; exact (kP_app.mpr ⟨(kP_app.mp hP).1, (kP_app.mpr ⟨(kP_app.mp (kP_app.mp hP).2).1, kP_nil⟩)⟩), kK_warm hW hK, vD_sub (sbA _ (sbA _ (sb0 _))) hD⟩) ⟨rfl, rfl, Nat.le_of_ble_eq_true rfl, Nat.le_of_ble_eq_true rfl⟩ rfl hl.1 rfl (Nat.le_of_ble_eq_true rfl) dX9_lasts_32 ⟨Nat.le_of_ble_eq_true rfl, Nat.le_of_ble_eq_true rfl⟩) (adr_app rfl (adr_app aW_adr rfl)) (asc2 _ _ _) (ww' := mO g o ab be lm ra ta ti fa um ua hh ++ (aW g (o 1) 3 (upd rf 0 (rf 0 + 1)) ++ (aW g (o 2) 45 r ++ (aW g (o 3) 45 tr ++ [])))) (asc2 _ _ _) hP hD hS (fun H locs hP hD hS => ?_)
      exact ret_rxi (S := (Nat → Int32)) tr hx hb hr hlk (by simp only [c1, c2, if_true, if_false, eq_self, Bool.false_eq_true, Bool.and_true, Bool.true_and, Bool.and_false, Bool.false_and]) (kP_eq (by simp only [c1, c2, if_true, if_false, eq_self, Bool.false_eq_true, Bool.and_true, Bool.true_and, Bool.and_false, Bool.false_and]) hP) hS dX9_lasts_35
    · skip
      have c2 := b2i_1 c2
      refine lv_aload_n hx hb dX9_lasts_18 rfl (lv_at hl 0 rfl) ?_
      refine lv_iload_n hx hb dX9_lasts_19 rfl (lv_at hl 1 rfl) ?_
      refine lv_iload_n hx hb dX9_lasts_20 rfl (lv_at hl 2 rfl) ?_
      refine lv_iload_n hx hb dX9_lasts_21 rfl (lv_at hl 3 rfl) ?_
      refine lv_iconst (v := 0) hx hb dX9_lasts_22 rfl ?_
      have hP : kP g (mO g o ab be lm ra ta ti fa um ua hh ++ (aW g (o 2) 45 r ++ (aW g (o 3) 45 tr ++ (aW g (o 1) 3 rf ++ [])))) _ := kP_perm ((pmA _ (pm_swap _ _ _)).trans (pmA _ (pmA _ (pm_swap _ _ _)))) hP
      have hD : va_D _ (mO g o ab be lm ra ta ti fa um ua hh ++ (aW g (o 2) 45 r ++ (aW g (o 3) 45 tr ++ (aW g (o 1) 3 rf ++ [])))) := vD_perm ((pmA _ (pm_swap _ _ _)).trans (pmA _ (pmA _ (pm_swap _ _ _)))) hD
      refine rx_i (run_V (rm := rmN 4) (As := [.int (i), .int (j), .int (w), .int (0)]) (rest := []) hC.1 ckX9_ended (kX9_ended l g o ab be lm ra ta ti fa um ua hh r tr i j w false hw) (gw_in m_1236 rfl) (fb_rw _ _ _) (va_recv hK.1 (kP_app.mp hP).1 (q0 := 0) rfl rfl) (fun U hU hW => ⟨by rw [hU]; exact (kP_app.mpr ⟨(kP_app.mp hP).1, (kP_app.mpr ⟨(kP_app.mp (kP_app.mp hP).2).1, (kP_app.mpr ⟨(kP_app.mp (kP_app.mp (kP_app.mp hP).2).2).1, kP_nil⟩)⟩)⟩), kK_warm hW hK, vD_sub (sbA _ (sbA _ (sbA _ (sb0 _)))) hD⟩) ⟨rfl, rfl, Nat.le_of_ble_eq_true rfl, Nat.le_of_ble_eq_true rfl⟩ rfl hl.1 rfl (Nat.le_of_ble_eq_true rfl) dX9_lasts_23 ⟨Nat.le_of_ble_eq_true rfl, Nat.le_of_ble_eq_true rfl⟩) (fun u => (adr_app rfl (adr_app rfl (adr_app aW_adr rfl)))) (asc3 _ _ _ _) (ww' := fun u9 : (Nat → Int32) => mO g o ab be lm ra ta ti fa um ua hh ++ (aW g (o 2) 45 r ++ (aW g (o 3) 45 u9 ++ (aW g (o 1) 3 rf ++ [])))) (fun u => asc3 _ _ _ _) hP hD hS (fun u H locs hP hD hS => ?_)
      obtain ⟨x3, rfl⟩ : ∃ z, z = u := ⟨_, rfl⟩
      have hP : kP g (mO g o ab be lm ra ta ti fa um ua hh ++ (aW g (o 2) 45 r ++ (aW g (o 3) 45 x3 ++ (aW g (o 1) 3 rf ++ [])))) H := hP
      have hD : va_D _ (mO g o ab be lm ra ta ti fa um ua hh ++ (aW g (o 2) 45 r ++ (aW g (o 3) 45 x3 ++ (aW g (o 1) 3 rf ++ [])))) := hD
      refine lv_goto (tgt := 35) hx hb dX9_lasts_26 (by decide) ?_
      have hP : kP g (mO g o ab be lm ra ta ti fa um ua hh ++ (aW g (o 1) 3 rf ++ (aW g (o 2) 45 r ++ (aW g (o 3) 45 x3 ++ [])))) _ := kP_perm ((pmA _ (pmA _ (pm_swap _ _ _))).trans (pmA _ (pm_swap _ _ _))) hP
      have hD : va_D _ (mO g o ab be lm ra ta ti fa um ua hh ++ (aW g (o 1) 3 rf ++ (aW g (o 2) 45 r ++ (aW g (o 3) 45 x3 ++ [])))) := vD_perm ((pmA _ (pmA _ (pm_swap _ _ _))).trans (pmA _ (pm_swap _ _ _))) hD
      exact ret_rxi (S := (Nat → Int32)) x3 hx hb hr hlk (by exact (if_pos (by rw [c1, c2]; rfl)).symm) (kP_eq (by rw [if_pos (by rw [c1, c2]; rfl)]) hP) hS dX9_lasts_35
set_option maxHeartbeats 4000000 in
set_option maxRecDepth 100000 in
theorem kX9_bout (l : Launch) (g : gG) (o : Nat → Nat) (ab be : Int64) (lm ra ta : Nat) (ti fa : Int32) (um ua : Nat) (hh : Int64) (rf : Nat → Int32) (r tr : Nat → Int32) (i j w : Int32) (hw : Wf r) : Met l yX9_bout (.code yX9_bout cX9_bout 4 (some .int) :: gw) (rmN 5) (va_Pc [.ref (o 0), .int (i), .int (j), .int (w)] (rwPre g (mO g o ab be lm ra ta ti fa um ua hh ++ (aW g (o 1) 3 rf ++ (aW g (o 2) 45 r ++ (aW g (o 3) 45 tr ++ [])))))) (rxQi g (mO g o ab be lm ra ta ti fa um ua hh ++ (aW g (o 1) 3 rf ++ (aW g (o 2) 45 r ++ (aW g (o 3) 45 tr ++ [])))) (fun u9 : (Nat → Int32) => mO g o ab be lm ra ta ti fa um ua hh ++ (aW g (o 1) 3 (if (yNut r i && yNut r j && decide (¬ i = j) && wth w 0 2) = true then rf else upd rf 0 (rf 0 + 1)) ++ (aW g (o 2) 45 r ++ (aW g (o 3) 45 u9 ++ [])))) (if (yNut r i && yNut r j && decide (¬ i = j) && wth w 0 2) = true then (if yCan r i j = true then enM (btF true i j 60 0 r) i j w else -1) else -2)) 0 0 (dm (mO g o ab be lm ra ta ti fa um ua hh ++ (aW g (o 1) 3 rf ++ (aW g (o 2) 45 r ++ (aW g (o 3) 45 tr ++ []))))) := by
  refine met_start (by decide) (Nat.le_of_ble_eq_true rfl) ?_
  intro pp ee ss mm bl mt cd hC hpre ls hl
  obtain ⟨⟨hx, hb, hml, hown, hts⟩, hr, hlk, hnm⟩ := id hC
  have hl : lv_has ls 4 [(0, .ref (o 0)), (1, .int (i)), (2, .int (j)), (3, .int (w))] := hl
  obtain ⟨hP, hK, hD⟩ := hpre
  have hS : va_S (dm (mO g o ab be lm ra ta ti fa um ua hh ++ (aW g (o 1) 3 rf ++ (aW g (o 2) 45 r ++ (aW g (o 3) 45 tr ++ []))))) ss.heap ss.heap [] := va_S.rf
  have hD := vD_self hD
  refine lv_aload_n hx hb dX9_bout_0 rfl (lv_at hl 0 rfl) ?_
  refine lv_iload_n hx hb dX9_bout_1 rfl (lv_at hl 1 rfl) ?_
  refine lv_iload_n hx hb dX9_bout_2 rfl (lv_at hl 2 rfl) ?_
  refine ro_i (run_V (As := [.int (i), .int (j)]) (rest := []) hC.1 ckX9_isPair (kX9_isPair l g o ab be lm ra ta ti fa um ua hh r i j hw) (gw_in m_1182 rfl) (fb_ro _ _ _) (va_recv hK.1 (kP_app.mp hP).1 (q0 := 0) rfl rfl) (fun U hU hW => ⟨by rw [hU]; exact (kP_app.mpr ⟨(kP_app.mp hP).1, (kP_app.mpr ⟨(kP_app.mp (kP_app.mp (kP_app.mp hP).2).2).1, (kP_mem.mpr (fun _ h => absurd h List.not_mem_nil))⟩)⟩), kK_warm hW hK⟩) ⟨rfl, rfl, Nat.le_of_ble_eq_true rfl, Nat.le_of_ble_eq_true rfl⟩ rfl hl.1 rfl (Nat.le_of_ble_eq_true rfl) dX9_bout_3 ⟨Nat.le_of_ble_eq_true rfl, Nat.le_of_ble_eq_true rfl⟩) ?_
  refine lv_if_eq (tgt := 29) hx hb dX9_bout_6 (by decide) (fun c1 => ?_) (fun c1 => ?_)
  · skip
    have c1 := b2i_0 c1
    refine lv_aload_n hx hb dX9_bout_29 rfl (lv_at hl 0 rfl) ?_
    refine lv_bipush (v := -2) hx hb dX9_bout_30 rfl ?_
    refine rw_i (run_V (As := [.int (-2)]) (rest := []) hC.1 ckX9_bad (kX9_bad l g o ab be lm ra ta ti fa um ua hh rf (-2)) (gw_in m_1041 rfl) (fb_rw _ _ _) (va_recv hK.1 (kP_app.mp hP).1 (q0 := 0) rfl rfl) (fun U hU hW => ⟨by rw [hU]; exact (kP_app.mpr ⟨(kP_app.mp hP).1, (kP_app.mpr ⟨(kP_app.mp (kP_app.mp hP).2).1, kP_nil⟩)⟩), kK_warm hW hK, vD_sub (sbA _ (sbA _ (sb0 _))) hD⟩) ⟨rfl, rfl, Nat.le_of_ble_eq_true rfl, Nat.le_of_ble_eq_true rfl⟩ rfl hl.1 rfl (Nat.le_of_ble_eq_true rfl) dX9_bout_32 ⟨Nat.le_of_ble_eq_true rfl, Nat.le_of_ble_eq_true rfl⟩) (adr_app rfl (adr_app aW_adr rfl)) (asc2 _ _ _) (ww' := mO g o ab be lm ra ta ti fa um ua hh ++ (aW g (o 1) 3 (upd rf 0 (rf 0 + 1)) ++ (aW g (o 2) 45 r ++ (aW g (o 3) 45 tr ++ [])))) (asc2 _ _ _) hP hD hS (fun H locs hP hD hS => ?_)
    exact ret_rxi (S := (Nat → Int32)) tr hx hb hr hlk (by simp only [c1, if_true, if_false, eq_self, Bool.false_eq_true, Bool.and_true, Bool.true_and, Bool.and_false, Bool.false_and]) (kP_eq (by simp only [c1, if_true, if_false, eq_self, Bool.false_eq_true, Bool.and_true, Bool.true_and, Bool.and_false, Bool.false_and]) hP) hS dX9_bout_35
  · skip
    have c1 := b2i_1 c1
    refine lv_iload_n hx hb dX9_bout_9 rfl (lv_at hl 3 rfl) ?_
    refine lv_iconst (v := 0) hx hb dX9_bout_10 rfl ?_
    refine lv_iconst (v := 2) hx hb dX9_bout_11 rfl ?_
    refine ro_i (run_S (As := [.int (w), .int (0), .int (2)]) (rest := []) hC.1 ckX9_in (kX9_in l w 0 2) (gw_in m_1038 rfl) (fb_nil _) (fun _ _ _ => trivial) ⟨rfl, rfl, Nat.le_of_ble_eq_true rfl, Nat.le_of_ble_eq_true rfl⟩ rfl hl.1 rfl (Nat.le_of_ble_eq_true rfl) dX9_bout_12 ⟨Nat.le_of_ble_eq_true rfl, Nat.le_of_ble_eq_true rfl⟩) ?_
    refine lv_if_eq (tgt := 29) hx hb dX9_bout_15 (by decide) (fun c2 => ?_) (fun c2 => ?_)
    · skip
      have c2 := b2i_0 c2
      refine lv_aload_n hx hb dX9_bout_29 rfl (lv_at hl 0 rfl) ?_
      refine lv_bipush (v := -2) hx hb dX9_bout_30 rfl ?_
      refine rw_i (run_V (As := [.int (-2)]) (rest := []) hC.1 ckX9_bad (kX9_bad l g o ab be lm ra ta ti fa um ua hh rf (-2)) (gw_in m_1041 rfl) (fb_rw _ _ _) (va_recv hK.1 (kP_app.mp hP).1 (q0 := 0) rfl rfl) (fun U hU hW => ⟨by rw [hU]; exact (kP_app.mpr ⟨(kP_app.mp hP).1, (kP_app.mpr ⟨(kP_app.mp (kP_app.mp hP).2).1, kP_nil⟩)⟩), kK_warm hW hK, vD_sub (sbA _ (sbA _ (sb0 _))) hD⟩) ⟨rfl, rfl, Nat.le_of_ble_eq_true rfl, Nat.le_of_ble_eq_true rfl⟩ rfl hl.1 rfl (Nat.le_of_ble_eq_true rfl) dX9_bout_32 ⟨Nat.le_of_ble_eq_true rfl, Nat.le_of_ble_eq_true rfl⟩) (adr_app rfl (adr_app aW_adr rfl)) (asc2 _ _ _) (ww' := mO g o ab be lm ra ta ti fa um ua hh ++ (aW g (o 1) 3 (upd rf 0 (rf 0 + 1)) ++ (aW g (o 2) 45 r ++ (aW g (o 3) 45 tr ++ [])))) (asc2 _ _ _) hP hD hS (fun H locs hP hD hS => ?_)
      exact ret_rxi (S := (Nat → Int32)) tr hx hb hr hlk (by simp only [c1, c2, if_true, if_false, eq_self, Bool.false_eq_true, Bool.and_true, Bool.true_and, Bool.and_false, Bool.false_and]) (kP_eq (by simp only [c1, c2, if_true, if_false, eq_self, Bool.false_eq_true, Bool.and_true, Bool.true_and, Bool.and_false, Bool.false_and]) hP) hS dX9_bout_35
    · skip
      have c2 := b2i_1 c2
      refine lv_aload_n hx hb dX9_bout_18 rfl (lv_at hl 0 rfl) ?_
      refine lv_iload_n hx hb dX9_bout_19 rfl (lv_at hl 1 rfl) ?_
      refine lv_iload_n hx hb dX9_bout_20 rfl (lv_at hl 2 rfl) ?_
      refine lv_iload_n hx hb dX9_bout_21 rfl (lv_at hl 3 rfl) ?_
      refine lv_iconst (v := 1) hx hb dX9_bout_22 rfl ?_
      have hP : kP g (mO g o ab be lm ra ta ti fa um ua hh ++ (aW g (o 2) 45 r ++ (aW g (o 3) 45 tr ++ (aW g (o 1) 3 rf ++ [])))) _ := kP_perm ((pmA _ (pm_swap _ _ _)).trans (pmA _ (pmA _ (pm_swap _ _ _)))) hP
      have hD : va_D _ (mO g o ab be lm ra ta ti fa um ua hh ++ (aW g (o 2) 45 r ++ (aW g (o 3) 45 tr ++ (aW g (o 1) 3 rf ++ [])))) := vD_perm ((pmA _ (pm_swap _ _ _)).trans (pmA _ (pmA _ (pm_swap _ _ _)))) hD
      refine rx_i (run_V (rm := rmN 4) (As := [.int (i), .int (j), .int (w), .int (1)]) (rest := []) hC.1 ckX9_ended (kX9_ended l g o ab be lm ra ta ti fa um ua hh r tr i j w true hw) (gw_in m_1236 rfl) (fb_rw _ _ _) (va_recv hK.1 (kP_app.mp hP).1 (q0 := 0) rfl rfl) (fun U hU hW => ⟨by rw [hU]; exact (kP_app.mpr ⟨(kP_app.mp hP).1, (kP_app.mpr ⟨(kP_app.mp (kP_app.mp hP).2).1, (kP_app.mpr ⟨(kP_app.mp (kP_app.mp (kP_app.mp hP).2).2).1, kP_nil⟩)⟩)⟩), kK_warm hW hK, vD_sub (sbA _ (sbA _ (sbA _ (sb0 _)))) hD⟩) ⟨rfl, rfl, Nat.le_of_ble_eq_true rfl, Nat.le_of_ble_eq_true rfl⟩ rfl hl.1 rfl (Nat.le_of_ble_eq_true rfl) dX9_bout_23 ⟨Nat.le_of_ble_eq_true rfl, Nat.le_of_ble_eq_true rfl⟩) (fun u => (adr_app rfl (adr_app rfl (adr_app aW_adr rfl)))) (asc3 _ _ _ _) (ww' := fun u9 : (Nat → Int32) => mO g o ab be lm ra ta ti fa um ua hh ++ (aW g (o 2) 45 r ++ (aW g (o 3) 45 u9 ++ (aW g (o 1) 3 rf ++ [])))) (fun u => asc3 _ _ _ _) hP hD hS (fun u H locs hP hD hS => ?_)
      obtain ⟨x3, rfl⟩ : ∃ z, z = u := ⟨_, rfl⟩
      have hP : kP g (mO g o ab be lm ra ta ti fa um ua hh ++ (aW g (o 2) 45 r ++ (aW g (o 3) 45 x3 ++ (aW g (o 1) 3 rf ++ [])))) H := hP
      have hD : va_D _ (mO g o ab be lm ra ta ti fa um ua hh ++ (aW g (o 2) 45 r ++ (aW g (o 3) 45 x3 ++ (aW g (o 1) 3 rf ++ [])))) := hD
      refine lv_goto (tgt := 35) hx hb dX9_bout_26 (by decide) ?_
      have hP : kP g (mO g o ab be lm ra ta ti fa um ua hh ++ (aW g (o 1) 3 rf ++ (aW g (o 2) 45 r ++ (aW g (o 3) 45 x3 ++ [])))) _ := kP_perm ((pmA _ (pmA _ (pm_swap _ _ _))).trans (pmA _ (pm_swap _ _ _))) hP
      have hD : va_D _ (mO g o ab be lm ra ta ti fa um ua hh ++ (aW g (o 1) 3 rf ++ (aW g (o 2) 45 r ++ (aW g (o 3) 45 x3 ++ [])))) := vD_perm ((pmA _ (pmA _ (pm_swap _ _ _))).trans (pmA _ (pm_swap _ _ _))) hD
      exact ret_rxi (S := (Nat → Int32)) x3 hx hb hr hlk (by exact (if_pos (by rw [c1, c2]; rfl)).symm) (kP_eq (by rw [if_pos (by rw [c1, c2]; rfl)]) hP) hS dX9_bout_35
