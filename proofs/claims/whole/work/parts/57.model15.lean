theorem ckX9_of : ckV yX9_of cX9_of 3 (some .int) 2 := ⟨(gw_in m_1209 rfl), (gw_in m_71 rfl), ⟨(gw_in m_1207 rfl), (gw_in m_1208 rfl)⟩, by decide +kernel, by decide +kernel, by decide +kernel⟩
theorem ckX9_who : ckV yX9_who cX9_who 3 (some .int) 2 := ⟨(gw_in m_1216 rfl), (gw_in m_71 rfl), ⟨(gw_in m_1214 rfl), (gw_in m_1215 rfl)⟩, by decide +kernel, by decide +kernel, by decide +kernel⟩
theorem ckX9_crack : ckV yX9_crack cX9_crack 4 (some .int) 3 := ⟨(gw_in m_1231 rfl), (gw_in m_71 rfl), ⟨(gw_in m_1229 rfl), (gw_in m_1230 rfl)⟩, by decide +kernel, by decide +kernel, by decide +kernel⟩
theorem ckX9_ended : ckV yX9_ended cX9_ended 7 (some .int) 4 := ⟨(gw_in m_1239 rfl), (gw_in m_71 rfl), ⟨(gw_in m_1238 rfl), (gw_in m_50 rfl)⟩, by decide +kernel, by decide +kernel, by decide +kernel⟩
set_option maxHeartbeats 4000000 in
set_option maxRecDepth 100000 in
theorem kX9_of (l : Launch) (g : gG) (o : Nat → Nat) (ab be : Int64) (lm ra ta : Nat) (ti fa : Int32) (um ua : Nat) (hh : Int64) (rf : Nat → Int32) (r : Nat → Int32) (i w : Int32) (hw : Wf r) : Met l yX9_of (.code yX9_of cX9_of 3 (some .int) :: gw) (rmN 4) (va_Pc [.ref (o 0), .int (i), .int (w)] (rwPre g (mO g o ab be lm ra ta ti fa um ua hh ++ (aW g (o 1) 3 rf ++ (aW g (o 2) 45 r ++ []))))) (rwQi g (mO g o ab be lm ra ta ti fa um ua hh ++ (aW g (o 1) 3 rf ++ (aW g (o 2) 45 r ++ []))) (mO g o ab be lm ra ta ti fa um ua hh ++ (aW g (o 1) 3 (if (yNut r i && wth w 0 7) = true then rf else upd rf 0 (rf 0 + 1)) ++ (aW g (o 2) 45 r ++ []))) (if (yNut r i && wth w 0 7) = true then yFact r i w else -2)) 0 0 (dm (mO g o ab be lm ra ta ti fa um ua hh ++ (aW g (o 1) 3 rf ++ (aW g (o 2) 45 r ++ [])))) := by
  refine met_start (by decide) (Nat.le_of_ble_eq_true rfl) ?_
  intro pp ee ss mm bl mt cd hC hpre ls hl
  obtain ⟨⟨hx, hb, hml, hown, hts⟩, hr, hlk, hnm⟩ := id hC
  have hl : lv_has ls 3 [(0, .ref (o 0)), (1, .int (i)), (2, .int (w))] := hl
  obtain ⟨hP, hK, hD⟩ := hpre
  have hS : va_S (dm (mO g o ab be lm ra ta ti fa um ua hh ++ (aW g (o 1) 3 rf ++ (aW g (o 2) 45 r ++ [])))) ss.heap ss.heap [] := va_S.rf
  have hD := vD_self hD
  refine lv_aload_n hx hb dX9_of_0 rfl (lv_at hl 0 rfl) ?_
  refine kget hC.1 hK (kP_app.mp hP).1 0 rfl rfl in_9 3 (by decide) (gw_in m_963 rfl) rfl dX9_of_1 ?_
  refine lv_iload_n hx hb dX9_of_4 rfl (lv_at hl 1 rfl) ?_
  refine ro_i (run_S (As := [.ref (o 2), .int (i)]) (rest := []) hC.1 ckX9_isNut (kX9_isNut l g (o 2) r i hw) (gw_in m_1139 rfl) (fb_ro _ _ _) (fun U hU hW => ⟨by rw [hU]; exact (kP_app.mp (kP_app.mp (kP_app.mp hP).2).2).1, kK_warm hW hK⟩) ⟨rfl, rfl, Nat.le_of_ble_eq_true rfl, Nat.le_of_ble_eq_true rfl⟩ rfl hl.1 rfl (Nat.le_of_ble_eq_true rfl) dX9_of_5 ⟨Nat.le_of_ble_eq_true rfl, Nat.le_of_ble_eq_true rfl⟩) ?_
  refine lv_if_eq (tgt := 21) hx hb dX9_of_8 (by decide) (fun c1 => ?_) (fun c1 => ?_)
  · skip
    have c1 := b2i_0 c1
    refine lv_aload_n hx hb dX9_of_21 rfl (lv_at hl 0 rfl) ?_
    refine lv_bipush (v := -2) hx hb dX9_of_22 rfl ?_
    refine rw_i (run_V (As := [.int (-2)]) (rest := []) hC.1 ckX9_bad (kX9_bad l g o ab be lm ra ta ti fa um ua hh rf (-2)) (gw_in m_1041 rfl) (fb_rw _ _ _) (va_recv hK.1 (kP_app.mp hP).1 (q0 := 0) rfl rfl) (fun U hU hW => ⟨by rw [hU]; exact (kP_app.mpr ⟨(kP_app.mp hP).1, (kP_app.mpr ⟨(kP_app.mp (kP_app.mp hP).2).1, kP_nil⟩)⟩), kK_warm hW hK, vD_sub (sbA _ (sbA _ (sb0 _))) hD⟩) ⟨rfl, rfl, Nat.le_of_ble_eq_true rfl, Nat.le_of_ble_eq_true rfl⟩ rfl hl.1 rfl (Nat.le_of_ble_eq_true rfl) dX9_of_24 ⟨Nat.le_of_ble_eq_true rfl, Nat.le_of_ble_eq_true rfl⟩) (adr_app rfl (adr_app aW_adr rfl)) (asc2 _ _ _) (ww' := mO g o ab be lm ra ta ti fa um ua hh ++ (aW g (o 1) 3 (upd rf 0 (rf 0 + 1)) ++ (aW g (o 2) 45 r ++ []))) (asc2 _ _ _) hP hD hS (fun H locs hP hD hS => ?_)
    exact ret_rwi hx hb hr hlk (by simp only [c1, if_true, if_false, eq_self, Bool.false_eq_true, Bool.and_true, Bool.true_and, Bool.and_false, Bool.false_and]) (kP_eq (by simp only [c1, if_true, if_false, eq_self, Bool.false_eq_true, Bool.and_true, Bool.true_and, Bool.and_false, Bool.false_and]) hP) hS dX9_of_27
  · skip
    have c1 := b2i_1 c1
    refine lv_iload_n hx hb dX9_of_11 rfl (lv_at hl 2 rfl) ?_
    refine lv_iconst (v := 0) hx hb dX9_of_12 rfl ?_
    refine lv_bipush (v := 7) hx hb dX9_of_13 rfl ?_
    refine ro_i (run_S (As := [.int (w), .int (0), .int (7)]) (rest := []) hC.1 ckX9_in (kX9_in l w 0 7) (gw_in m_1038 rfl) (fb_nil _) (fun _ _ _ => trivial) ⟨rfl, rfl, Nat.le_of_ble_eq_true rfl, Nat.le_of_ble_eq_true rfl⟩ rfl hl.1 rfl (Nat.le_of_ble_eq_true rfl) dX9_of_15 ⟨Nat.le_of_ble_eq_true rfl, Nat.le_of_ble_eq_true rfl⟩) ?_
    refine lv_if_ne (tgt := 28) hx hb dX9_of_18 (by decide) (fun c2 => ?_) (fun c2 => ?_)
    · skip
      have c2 := b2i_1 c2
      refine lv_iload_n hx hb dX9_of_28 rfl (lv_at hl 2 rfl) ?_
      refine lv_bipush (v := 7) hx hb dX9_of_29 rfl ?_
      refine lv_icmp_ne (tgt := 45) hx hb dX9_of_31 (by decide) (fun c3 => ?_) (fun c3 => ?_)
      · skip
        refine lv_iload_n hx hb dX9_of_45 rfl (lv_at hl 2 rfl) ?_
        refine lv_bipush (v := 6) hx hb dX9_of_46 rfl ?_
        refine lv_icmp_ne (tgt := 69) hx hb dX9_of_48 (by decide) (fun c4 => ?_) (fun c4 => ?_)
        · skip
          obtain ⟨k, hk, rfl⟩ := w_nI c2 c3 c4
          refine lv_aload_n hx hb dX9_of_69 rfl (lv_at hl 0 rfl) ?_
          refine kget hC.1 hK (kP_app.mp hP).1 0 rfl rfl in_9 3 (by decide) (gw_in m_963 rfl) rfl dX9_of_70 ?_
          refine lv_bipush (v := 9) hx hb dX9_of_73 rfl ?_
          refine lv_bipush (v := 6) hx hb dX9_of_75 rfl ?_
          refine lv_iload_n hx hb dX9_of_77 rfl (lv_at hl 2 rfl) ?_
          refine lv_imul hx hb dX9_of_78 ?_
          refine top_i (x := 6 * (nI k)) (y := nI (6 * k)) (by rw [show (6 : Int32) = nI 6 from rfl, pk_mul]) ?_
          refine lv_iadd hx hb dX9_of_79 ?_
          refine top_i (x := 9 + (nI (6 * k))) (y := nI (9 + 6 * k)) (by rw [show (9 : Int32) = nI 9 from rfl, nI_add]) ?_
          refine lv_iload_n hx hb dX9_of_80 rfl (lv_at hl 1 rfl) ?_
          refine lv_iadd hx hb dX9_of_81 ?_
          refine kald (v := r (9 + 6 * k + cl i)) hC.1 hK (kP_app.mp (kP_app.mp (kP_app.mp hP).2).2).1 0 rfl (ix_in (K := 9 + 6 * k) (yNut_in c1 hw.n6) (by omega) (by omega)) (congrArg r (ix_cl (K := 9 + 6 * k) (yNut_in (by assumption) hw.n6) (by omega))) dX9_of_82 ?_
          exact ret_rwi hx hb hr hlk (by rw [if_pos (by rw [c1, c2]; rfl)]; exact (yFact_k c1 hk).symm) (kP_eq (by rw [if_pos (by rw [c1, c2]; rfl)]) hP) hS dX9_of_83
        · skip
          refine lv_aload_n hx hb dX9_of_51 rfl (lv_at hl 0 rfl) ?_
          refine kget hC.1 hK (kP_app.mp hP).1 0 rfl rfl in_9 3 (by decide) (gw_in m_963 rfl) rfl dX9_of_52 ?_
          refine lv_iload_n hx hb dX9_of_55 rfl (lv_at hl 1 rfl) ?_
          refine lv_aload_n hx hb dX9_of_56 rfl (lv_at hl 0 rfl) ?_
          refine kget hC.1 hK (kP_app.mp hP).1 0 rfl rfl in_9 3 (by decide) (gw_in m_963 rfl) rfl dX9_of_57 ?_
          refine ro_i (run_S (As := [.ref (o 2)]) (rest := [.int (i), .ref (o 2)]) hC.1 ckX9_nextNumber (kX9_nextNumber l g (o 2) r) (gw_in m_1145 rfl) (fb_ro _ _ _) (fun U hU hW => ⟨by rw [hU]; exact (kP_app.mp (kP_app.mp (kP_app.mp hP).2).2).1, kK_warm hW hK⟩) ⟨rfl, rfl, Nat.le_of_ble_eq_true rfl, Nat.le_of_ble_eq_true rfl⟩ rfl hl.1 rfl (Nat.le_of_ble_eq_true rfl) dX9_of_60 ⟨Nat.le_of_ble_eq_true rfl, Nat.le_of_ble_eq_true rfl⟩) ?_
          refine ro_i (run_S (As := [.ref (o 2), .int (i), .int (yNext r)]) (rest := []) hC.1 ckX9_forceOf (kX9_forceOf l g (o 2) r i (yNext r) (yNut_in c1 hw.n6) (yPl_in (hw.own c1) hw.n3)) (gw_in m_1148 rfl) (fb_ro _ _ _) (fun U hU hW => ⟨by rw [hU]; exact (kP_app.mp (kP_app.mp (kP_app.mp hP).2).2).1, kK_warm hW hK⟩) ⟨rfl, rfl, Nat.le_of_ble_eq_true rfl, Nat.le_of_ble_eq_true rfl⟩ rfl hl.1 rfl (Nat.le_of_ble_eq_true rfl) dX9_of_63 ⟨Nat.le_of_ble_eq_true rfl, Nat.le_of_ble_eq_true rfl⟩) ?_
          refine lv_goto (tgt := 83) hx hb dX9_of_66 (by decide) ?_
          exact ret_rwi hx hb hr hlk (by rw [if_pos (by rw [c1, c2]; rfl)]; simp [yFact, c1, c3, c4]) (kP_eq (by rw [if_pos (by rw [c1, c2]; rfl)]) hP) hS dX9_of_83
      · skip
        refine lv_aload_n hx hb dX9_of_34 rfl (lv_at hl 0 rfl) ?_
        refine kget hC.1 hK (kP_app.mp hP).1 0 rfl rfl in_9 3 (by decide) (gw_in m_963 rfl) rfl dX9_of_35 ?_
        refine lv_iload_n hx hb dX9_of_38 rfl (lv_at hl 1 rfl) ?_
        refine ro_i (run_S (As := [.ref (o 2), .int (i)]) (rest := []) hC.1 ckX9_canSet (kX9_canSet l g (o 2) r i hw) (gw_in m_1210 rfl) (fb_ro _ _ _) (fun U hU hW => ⟨by rw [hU]; exact (kP_app.mp (kP_app.mp (kP_app.mp hP).2).2).1, kK_warm hW hK⟩) ⟨rfl, rfl, Nat.le_of_ble_eq_true rfl, Nat.le_of_ble_eq_true rfl⟩ rfl hl.1 rfl (Nat.le_of_ble_eq_true rfl) dX9_of_39 ⟨Nat.le_of_ble_eq_true rfl, Nat.le_of_ble_eq_true rfl⟩) ?_
        refine lv_goto (tgt := 83) hx hb dX9_of_42 (by decide) ?_
        exact ret_rwi hx hb hr hlk (by rw [if_pos (by rw [c1, c2]; rfl)]; simp [yFact, c1, c3]) (kP_eq (by rw [if_pos (by rw [c1, c2]; rfl)]) hP) hS dX9_of_83
    · skip
      have c2 := b2i_0 c2
      refine lv_aload_n hx hb dX9_of_21 rfl (lv_at hl 0 rfl) ?_
      refine lv_bipush (v := -2) hx hb dX9_of_22 rfl ?_
      refine rw_i (run_V (As := [.int (-2)]) (rest := []) hC.1 ckX9_bad (kX9_bad l g o ab be lm ra ta ti fa um ua hh rf (-2)) (gw_in m_1041 rfl) (fb_rw _ _ _) (va_recv hK.1 (kP_app.mp hP).1 (q0 := 0) rfl rfl) (fun U hU hW => ⟨by rw [hU]; exact (kP_app.mpr ⟨(kP_app.mp hP).1, (kP_app.mpr ⟨(kP_app.mp (kP_app.mp hP).2).1, kP_nil⟩)⟩), kK_warm hW hK, vD_sub (sbA _ (sbA _ (sb0 _))) hD⟩) ⟨rfl, rfl, Nat.le_of_ble_eq_true rfl, Nat.le_of_ble_eq_true rfl⟩ rfl hl.1 rfl (Nat.le_of_ble_eq_true rfl) dX9_of_24 ⟨Nat.le_of_ble_eq_true rfl, Nat.le_of_ble_eq_true rfl⟩) (adr_app rfl (adr_app aW_adr rfl)) (asc2 _ _ _) (ww' := mO g o ab be lm ra ta ti fa um ua hh ++ (aW g (o 1) 3 (upd rf 0 (rf 0 + 1)) ++ (aW g (o 2) 45 r ++ []))) (asc2 _ _ _) hP hD hS (fun H locs hP hD hS => ?_)
      exact ret_rwi hx hb hr hlk (by simp only [c1, c2, if_true, if_false, eq_self, Bool.false_eq_true, Bool.and_true, Bool.true_and, Bool.and_false, Bool.false_and]) (kP_eq (by simp only [c1, c2, if_true, if_false, eq_self, Bool.false_eq_true, Bool.and_true, Bool.true_and, Bool.and_false, Bool.false_and]) hP) hS dX9_of_27
set_option maxHeartbeats 4000000 in
set_option maxRecDepth 100000 in
theorem kX9_who (l : Launch) (g : gG) (o : Nat → Nat) (ab be : Int64) (lm ra ta : Nat) (ti fa : Int32) (um ua : Nat) (hh : Int64) (rf : Nat → Int32) (r : Nat → Int32) (q w : Int32) (hw : Wf r) : Met l yX9_who (.code yX9_who cX9_who 3 (some .int) :: gw) (rmN 2) (va_Pc [.ref (o 0), .int (q), .int (w)] (rwPre g (mO g o ab be lm ra ta ti fa um ua hh ++ (aW g (o 1) 3 rf ++ (aW g (o 2) 45 r ++ []))))) (rwQi g (mO g o ab be lm ra ta ti fa um ua hh ++ (aW g (o 1) 3 rf ++ (aW g (o 2) 45 r ++ []))) (mO g o ab be lm ra ta ti fa um ua hh ++ (aW g (o 1) 3 (if (yPl r q && wth w 0 3) = true then rf else upd rf 0 (rf 0 + 1)) ++ (aW g (o 2) 45 r ++ []))) (if (yPl r q && wth w 0 3) = true then mPF r q w else -2)) 0 0 (dm (mO g o ab be lm ra ta ti fa um ua hh ++ (aW g (o 1) 3 rf ++ (aW g (o 2) 45 r ++ [])))) := by
  refine met_start (by decide) (Nat.le_of_ble_eq_true rfl) ?_
  intro pp ee ss mm bl mt cd hC hpre ls hl
  obtain ⟨⟨hx, hb, hml, hown, hts⟩, hr, hlk, hnm⟩ := id hC
  have hl : lv_has ls 3 [(0, .ref (o 0)), (1, .int (q)), (2, .int (w))] := hl
  obtain ⟨hP, hK, hD⟩ := hpre
  have hS : va_S (dm (mO g o ab be lm ra ta ti fa um ua hh ++ (aW g (o 1) 3 rf ++ (aW g (o 2) 45 r ++ [])))) ss.heap ss.heap [] := va_S.rf
  have hD := vD_self hD
  refine lv_iload_n hx hb dX9_who_0 rfl (lv_at hl 1 rfl) ?_
  refine lv_iconst (v := 0) hx hb dX9_who_1 rfl ?_
  refine lv_aload_n hx hb dX9_who_2 rfl (lv_at hl 0 rfl) ?_
  refine kget hC.1 hK (kP_app.mp hP).1 0 rfl rfl in_9 3 (by decide) (gw_in m_963 rfl) rfl dX9_who_3 ?_
  refine lv_iconst (v := 1) hx hb dX9_who_6 rfl ?_
  refine kald (v := r 1) hC.1 hK (kP_app.mp (kP_app.mp (kP_app.mp hP).2).2).1 0 rfl (show vp_in (nI 1) 45 from vp_in_nI (by omega) (by omega)) (congrArg r (show cl 1 = 1 from by decide)) dX9_who_7 ?_
  refine lv_iconst (v := 1) hx hb dX9_who_8 rfl ?_
  refine lv_isub hx hb dX9_who_9 ?_
  refine ro_i (run_S (As := [.int (q), .int (0), .int ((r 1) - 1)]) (rest := []) hC.1 ckX9_in (kX9_in l q 0 ((r 1) - 1)) (gw_in m_1038 rfl) (fb_nil _) (fun _ _ _ => trivial) ⟨rfl, rfl, Nat.le_of_ble_eq_true rfl, Nat.le_of_ble_eq_true rfl⟩ rfl hl.1 rfl (Nat.le_of_ble_eq_true rfl) dX9_who_10 ⟨Nat.le_of_ble_eq_true rfl, Nat.le_of_ble_eq_true rfl⟩) ?_
  refine top_i (x := b2i (wth q 0 ((r 1) - 1))) (y := b2i (yPl r q)) (by rw [pl_w hw]) ?_
  refine lv_if_eq (tgt := 25) hx hb dX9_who_13 (by decide) (fun c1 => ?_) (fun c1 => ?_)
  · skip
    have c1 := b2i_0 c1
    refine lv_aload_n hx hb dX9_who_25 rfl (lv_at hl 0 rfl) ?_
    refine lv_bipush (v := -2) hx hb dX9_who_26 rfl ?_
    refine rw_i (run_V (As := [.int (-2)]) (rest := []) hC.1 ckX9_bad (kX9_bad l g o ab be lm ra ta ti fa um ua hh rf (-2)) (gw_in m_1041 rfl) (fb_rw _ _ _) (va_recv hK.1 (kP_app.mp hP).1 (q0 := 0) rfl rfl) (fun U hU hW => ⟨by rw [hU]; exact (kP_app.mpr ⟨(kP_app.mp hP).1, (kP_app.mpr ⟨(kP_app.mp (kP_app.mp hP).2).1, kP_nil⟩)⟩), kK_warm hW hK, vD_sub (sbA _ (sbA _ (sb0 _))) hD⟩) ⟨rfl, rfl, Nat.le_of_ble_eq_true rfl, Nat.le_of_ble_eq_true rfl⟩ rfl hl.1 rfl (Nat.le_of_ble_eq_true rfl) dX9_who_28 ⟨Nat.le_of_ble_eq_true rfl, Nat.le_of_ble_eq_true rfl⟩) (adr_app rfl (adr_app aW_adr rfl)) (asc2 _ _ _) (ww' := mO g o ab be lm ra ta ti fa um ua hh ++ (aW g (o 1) 3 (upd rf 0 (rf 0 + 1)) ++ (aW g (o 2) 45 r ++ []))) (asc2 _ _ _) hP hD hS (fun H locs hP hD hS => ?_)
    exact ret_rwi hx hb hr hlk (by simp only [c1, if_true, if_false, eq_self, Bool.false_eq_true, Bool.and_true, Bool.true_and, Bool.and_false, Bool.false_and]) (kP_eq (by simp only [c1, if_true, if_false, eq_self, Bool.false_eq_true, Bool.and_true, Bool.true_and, Bool.and_false, Bool.false_and]) hP) hS dX9_who_31
  · skip
    have c1 := b2i_1 c1
    refine lv_iload_n hx hb dX9_who_16 rfl (lv_at hl 2 rfl) ?_
    refine lv_iconst (v := 0) hx hb dX9_who_17 rfl ?_
    refine lv_iconst (v := 3) hx hb dX9_who_18 rfl ?_
    refine ro_i (run_S (As := [.int (w), .int (0), .int (3)]) (rest := []) hC.1 ckX9_in (kX9_in l w 0 3) (gw_in m_1038 rfl) (fb_nil _) (fun _ _ _ => trivial) ⟨rfl, rfl, Nat.le_of_ble_eq_true rfl, Nat.le_of_ble_eq_true rfl⟩ rfl hl.1 rfl (Nat.le_of_ble_eq_true rfl) dX9_who_19 ⟨Nat.le_of_ble_eq_true rfl, Nat.le_of_ble_eq_true rfl⟩) ?_
    refine lv_if_ne (tgt := 32) hx hb dX9_who_22 (by decide) (fun c2 => ?_) (fun c2 => ?_)
    · skip
      have c2 := b2i_1 c2
      refine lv_iload_n hx hb dX9_who_32 rfl (lv_at hl 2 rfl) ?_
      refine lv_if_ne (tgt := 47) hx hb dX9_who_33 (by decide) (fun c3 => ?_) (fun c3 => ?_)
      · skip
        refine lv_iload_n hx hb dX9_who_47 rfl (lv_at hl 2 rfl) ?_
        refine lv_iconst (v := 1) hx hb dX9_who_48 rfl ?_
        refine lv_icmp_ne (tgt := 64) hx hb dX9_who_49 (by decide) (fun c4 => ?_) (fun c4 => ?_)
        · skip
          refine lv_iload_n hx hb dX9_who_64 rfl (lv_at hl 2 rfl) ?_
          refine lv_iconst (v := 2) hx hb dX9_who_65 rfl ?_
          refine lv_icmp_ne (tgt := 77) hx hb dX9_who_66 (by decide) (fun c5 => ?_) (fun c5 => ?_)
          · skip
            refine lv_aload_n hx hb dX9_who_77 rfl (lv_at hl 0 rfl) ?_
            refine lv_aload_n hx hb dX9_who_78 rfl (lv_at hl 0 rfl) ?_
            refine lv_iload_n hx hb dX9_who_79 rfl (lv_at hl 1 rfl) ?_
            refine ro_i (run_V (As := [.int (q)]) (rest := [.ref (o 0)]) hC.1 ckX9_nutsOf (kX9_nutsOf l g o ab be lm ra ta ti fa um ua hh r q hw) (gw_in m_1217 rfl) (fb_ro _ _ _) (va_recv hK.1 (kP_app.mp hP).1 (q0 := 0) rfl rfl) (fun U hU hW => ⟨by rw [hU]; exact (kP_app.mpr ⟨(kP_app.mp hP).1, (kP_app.mpr ⟨(kP_app.mp (kP_app.mp (kP_app.mp hP).2).2).1, (kP_mem.mpr (fun _ h => absurd h List.not_mem_nil))⟩)⟩), kK_warm hW hK⟩) ⟨rfl, rfl, Nat.le_of_ble_eq_true rfl, Nat.le_of_ble_eq_true rfl⟩ rfl hl.1 rfl (Nat.le_of_ble_eq_true rfl) dX9_who_80 ⟨Nat.le_of_ble_eq_true rfl, Nat.le_of_ble_eq_true rfl⟩) ?_
            refine ro_i (run_V (As := [.int (setB (fun j => yWof r (nI j) q) (cl (r 2)))]) (rest := []) hC.1 ckX9_scoresOf (kX9_scoresOf l g o ab be lm ra ta ti fa um ua hh r (setB (fun j => yWof r (nI j) q) (cl (r 2))) hw) (gw_in m_1221 rfl) (fb_ro _ _ _) (va_recv hK.1 (kP_app.mp hP).1 (q0 := 0) rfl rfl) (fun U hU hW => ⟨by rw [hU]; exact (kP_app.mpr ⟨(kP_app.mp hP).1, (kP_app.mpr ⟨(kP_app.mp (kP_app.mp (kP_app.mp hP).2).2).1, (kP_mem.mpr (fun _ h => absurd h List.not_mem_nil))⟩)⟩), kK_warm hW hK⟩) ⟨rfl, rfl, Nat.le_of_ble_eq_true rfl, Nat.le_of_ble_eq_true rfl⟩ rfl hl.1 rfl (Nat.le_of_ble_eq_true rfl) dX9_who_83 ⟨Nat.le_of_ble_eq_true rfl, Nat.le_of_ble_eq_true rfl⟩) ?_
            exact ret_rwi hx hb hr hlk (by rw [if_pos (by rw [c1, c2]; rfl)]; simp [mPF, c3, c4, c5]) (kP_eq (by rw [if_pos (by rw [c1, c2]; rfl)]) hP) hS dX9_who_86
          · skip
            refine lv_aload_n hx hb dX9_who_69 rfl (lv_at hl 0 rfl) ?_
            refine lv_iload_n hx hb dX9_who_70 rfl (lv_at hl 1 rfl) ?_
            refine ro_i (run_V (As := [.int (q)]) (rest := []) hC.1 ckX9_nutsOf (kX9_nutsOf l g o ab be lm ra ta ti fa um ua hh r q hw) (gw_in m_1217 rfl) (fb_ro _ _ _) (va_recv hK.1 (kP_app.mp hP).1 (q0 := 0) rfl rfl) (fun U hU hW => ⟨by rw [hU]; exact (kP_app.mpr ⟨(kP_app.mp hP).1, (kP_app.mpr ⟨(kP_app.mp (kP_app.mp (kP_app.mp hP).2).2).1, (kP_mem.mpr (fun _ h => absurd h List.not_mem_nil))⟩)⟩), kK_warm hW hK⟩) ⟨rfl, rfl, Nat.le_of_ble_eq_true rfl, Nat.le_of_ble_eq_true rfl⟩ rfl hl.1 rfl (Nat.le_of_ble_eq_true rfl) dX9_who_71 ⟨Nat.le_of_ble_eq_true rfl, Nat.le_of_ble_eq_true rfl⟩) ?_
            refine lv_goto (tgt := 86) hx hb dX9_who_74 (by decide) ?_
            exact ret_rwi hx hb hr hlk (by rw [if_pos (by rw [c1, c2]; rfl)]; simp [mPF, c3, c4, c5]) (kP_eq (by rw [if_pos (by rw [c1, c2]; rfl)]) hP) hS dX9_who_86
        · skip
          refine lv_aload_n hx hb dX9_who_52 rfl (lv_at hl 0 rfl) ?_
          refine kget hC.1 hK (kP_app.mp hP).1 0 rfl rfl in_9 3 (by decide) (gw_in m_963 rfl) rfl dX9_who_53 ?_
          refine lv_bipush (v := 6) hx hb dX9_who_56 rfl ?_
          refine lv_iload_n hx hb dX9_who_58 rfl (lv_at hl 1 rfl) ?_
          refine lv_iadd hx hb dX9_who_59 ?_
          refine kald (v := r (6 + cl q)) hC.1 hK (kP_app.mp (kP_app.mp (kP_app.mp hP).2).2).1 0 rfl (ix_in (K := 6) (yPl_in c1 hw.n3) (by omega) (by omega)) (congrArg r (show cl (6 + q) = 6 + cl q from ix_cl (K := 6) (yPl_in c1 hw.n3) (by omega))) dX9_who_60 ?_
          refine lv_goto (tgt := 86) hx hb dX9_who_61 (by decide) ?_
          exact ret_rwi hx hb hr hlk (by rw [if_pos (by rw [c1, c2]; rfl)]; simp [mPF, c3, c4]) (kP_eq (by rw [if_pos (by rw [c1, c2]; rfl)]) hP) hS dX9_who_86
      · skip
        refine lv_aload_n hx hb dX9_who_36 rfl (lv_at hl 0 rfl) ?_
        refine kget hC.1 hK (kP_app.mp hP).1 0 rfl rfl in_9 3 (by decide) (gw_in m_963 rfl) rfl dX9_who_37 ?_
        refine lv_iconst (v := 3) hx hb dX9_who_40 rfl ?_
        refine lv_iload_n hx hb dX9_who_41 rfl (lv_at hl 1 rfl) ?_
        refine lv_iadd hx hb dX9_who_42 ?_
        refine kald (v := r (3 + cl q)) hC.1 hK (kP_app.mp (kP_app.mp (kP_app.mp hP).2).2).1 0 rfl (ix_in (K := 3) (yPl_in c1 hw.n3) (by omega) (by omega)) (congrArg r (show cl (3 + q) = 3 + cl q from ix_cl (K := 3) (yPl_in c1 hw.n3) (by omega))) dX9_who_43 ?_
        refine lv_goto (tgt := 86) hx hb dX9_who_44 (by decide) ?_
        exact ret_rwi hx hb hr hlk (by rw [if_pos (by rw [c1, c2]; rfl)]; simp [mPF, c3]) (kP_eq (by rw [if_pos (by rw [c1, c2]; rfl)]) hP) hS dX9_who_86
    · skip
      have c2 := b2i_0 c2
      refine lv_aload_n hx hb dX9_who_25 rfl (lv_at hl 0 rfl) ?_
      refine lv_bipush (v := -2) hx hb dX9_who_26 rfl ?_
      refine rw_i (run_V (As := [.int (-2)]) (rest := []) hC.1 ckX9_bad (kX9_bad l g o ab be lm ra ta ti fa um ua hh rf (-2)) (gw_in m_1041 rfl) (fb_rw _ _ _) (va_recv hK.1 (kP_app.mp hP).1 (q0 := 0) rfl rfl) (fun U hU hW => ⟨by rw [hU]; exact (kP_app.mpr ⟨(kP_app.mp hP).1, (kP_app.mpr ⟨(kP_app.mp (kP_app.mp hP).2).1, kP_nil⟩)⟩), kK_warm hW hK, vD_sub (sbA _ (sbA _ (sb0 _))) hD⟩) ⟨rfl, rfl, Nat.le_of_ble_eq_true rfl, Nat.le_of_ble_eq_true rfl⟩ rfl hl.1 rfl (Nat.le_of_ble_eq_true rfl) dX9_who_28 ⟨Nat.le_of_ble_eq_true rfl, Nat.le_of_ble_eq_true rfl⟩) (adr_app rfl (adr_app aW_adr rfl)) (asc2 _ _ _) (ww' := mO g o ab be lm ra ta ti fa um ua hh ++ (aW g (o 1) 3 (upd rf 0 (rf 0 + 1)) ++ (aW g (o 2) 45 r ++ []))) (asc2 _ _ _) hP hD hS (fun H locs hP hD hS => ?_)
      exact ret_rwi hx hb hr hlk (by simp only [c1, c2, if_true, if_false, eq_self, Bool.false_eq_true, Bool.and_true, Bool.true_and, Bool.and_false, Bool.false_and]) (kP_eq (by simp only [c1, c2, if_true, if_false, eq_self, Bool.false_eq_true, Bool.and_true, Bool.true_and, Bool.and_false, Bool.false_and]) hP) hS dX9_who_31
set_option maxHeartbeats 4000000 in
set_option maxRecDepth 100000 in
theorem kX9_crack (l : Launch) (g : gG) (o : Nat → Nat) (ab be : Int64) (lm ra ta : Nat) (ti fa : Int32) (um ua : Nat) (hh : Int64) (rf : Nat → Int32) (r tr : Nat → Int32) (i j w : Int32) (hw : Wf r) : Met l yX9_crack (.code yX9_crack cX9_crack 4 (some .int) :: gw) (rmN 3) (va_Pc [.ref (o 0), .int (i), .int (j), .int (w)] (rwPre g (mO g o ab be lm ra ta ti fa um ua hh ++ (aW g (o 1) 3 rf ++ (aW g (o 2) 45 r ++ (aW g (o 3) 45 tr ++ [])))))) (rxQi g (mO g o ab be lm ra ta ti fa um ua hh ++ (aW g (o 1) 3 rf ++ (aW g (o 2) 45 r ++ (aW g (o 3) 45 tr ++ [])))) (fun u9 : (Nat → Int32) => mO g o ab be lm ra ta ti fa um ua hh ++ (aW g (o 1) 3 (if (yNut r i && yNut r j && decide (¬ i = j) && wth w 0 1) = true then rf else upd rf 0 (rf 0 + 1)) ++ (aW g (o 2) 45 r ++ (aW g (o 3) 45 u9 ++ [])))) (if (yNut r i && yNut r j && decide (¬ i = j) && wth w 0 1) = true then (if yCan r i j = true then (if w = 0 then stk r i j (33 + cl j) else stk r i j (33 + cl i)) else -1) else -2)) 0 0 (dm (mO g o ab be lm ra ta ti fa um ua hh ++ (aW g (o 1) 3 rf ++ (aW g (o 2) 45 r ++ (aW g (o 3) 45 tr ++ []))))) := by
  refine met_start (by decide) (Nat.le_of_ble_eq_true rfl) ?_
  intro pp ee ss mm bl mt cd hC hpre ls hl
  obtain ⟨⟨hx, hb, hml, hown, hts⟩, hr, hlk, hnm⟩ := id hC
  have hl : lv_has ls 4 [(0, .ref (o 0)), (1, .int (i)), (2, .int (j)), (3, .int (w))] := hl
  obtain ⟨hP, hK, hD⟩ := hpre
  have hS : va_S (dm (mO g o ab be lm ra ta ti fa um ua hh ++ (aW g (o 1) 3 rf ++ (aW g (o 2) 45 r ++ (aW g (o 3) 45 tr ++ []))))) ss.heap ss.heap [] := va_S.rf
  have hD := vD_self hD
  refine lv_aload_n hx hb dX9_crack_0 rfl (lv_at hl 0 rfl) ?_
  refine lv_iload_n hx hb dX9_crack_1 rfl (lv_at hl 1 rfl) ?_
  refine lv_iload_n hx hb dX9_crack_2 rfl (lv_at hl 2 rfl) ?_
  refine ro_i (run_V (As := [.int (i), .int (j)]) (rest := []) hC.1 ckX9_isPair (kX9_isPair l g o ab be lm ra ta ti fa um ua hh r i j hw) (gw_in m_1182 rfl) (fb_ro _ _ _) (va_recv hK.1 (kP_app.mp hP).1 (q0 := 0) rfl rfl) (fun U hU hW => ⟨by rw [hU]; exact (kP_app.mpr ⟨(kP_app.mp hP).1, (kP_app.mpr ⟨(kP_app.mp (kP_app.mp (kP_app.mp hP).2).2).1, (kP_mem.mpr (fun _ h => absurd h List.not_mem_nil))⟩)⟩), kK_warm hW hK⟩) ⟨rfl, rfl, Nat.le_of_ble_eq_true rfl, Nat.le_of_ble_eq_true rfl⟩ rfl hl.1 rfl (Nat.le_of_ble_eq_true rfl) dX9_crack_3 ⟨Nat.le_of_ble_eq_true rfl, Nat.le_of_ble_eq_true rfl⟩) ?_
  refine lv_if_eq (tgt := 18) hx hb dX9_crack_6 (by decide) (fun c1 => ?_) (fun c1 => ?_)
  · skip
    have c1 := b2i_0 c1
    refine lv_aload_n hx hb dX9_crack_18 rfl (lv_at hl 0 rfl) ?_
    refine lv_bipush (v := -2) hx hb dX9_crack_19 rfl ?_
    refine rw_i (run_V (As := [.int (-2)]) (rest := []) hC.1 ckX9_bad (kX9_bad l g o ab be lm ra ta ti fa um ua hh rf (-2)) (gw_in m_1041 rfl) (fb_rw _ _ _) (va_recv hK.1 (kP_app.mp hP).1 (q0 := 0) rfl rfl) (fun U hU hW => ⟨by rw [hU]; exact (kP_app.mpr ⟨(kP_app.mp hP).1, (kP_app.mpr ⟨(kP_app.mp (kP_app.mp hP).2).1, kP_nil⟩)⟩), kK_warm hW hK, vD_sub (sbA _ (sbA _ (sb0 _))) hD⟩) ⟨rfl, rfl, Nat.le_of_ble_eq_true rfl, Nat.le_of_ble_eq_true rfl⟩ rfl hl.1 rfl (Nat.le_of_ble_eq_true rfl) dX9_crack_21 ⟨Nat.le_of_ble_eq_true rfl, Nat.le_of_ble_eq_true rfl⟩) (adr_app rfl (adr_app aW_adr rfl)) (asc2 _ _ _) (ww' := mO g o ab be lm ra ta ti fa um ua hh ++ (aW g (o 1) 3 (upd rf 0 (rf 0 + 1)) ++ (aW g (o 2) 45 r ++ (aW g (o 3) 45 tr ++ [])))) (asc2 _ _ _) hP hD hS (fun H locs hP hD hS => ?_)
    exact ret_rxi (S := (Nat → Int32)) tr hx hb hr hlk (by simp only [c1, if_true, if_false, eq_self, Bool.false_eq_true, Bool.and_true, Bool.true_and, Bool.and_false, Bool.false_and]) (kP_eq (by simp only [c1, if_true, if_false, eq_self, Bool.false_eq_true, Bool.and_true, Bool.true_and, Bool.and_false, Bool.false_and]) hP) hS dX9_crack_24
  · skip
    have c1 := b2i_1 c1
    refine lv_iload_n hx hb dX9_crack_9 rfl (lv_at hl 3 rfl) ?_
    refine lv_iconst (v := 0) hx hb dX9_crack_10 rfl ?_
    refine lv_iconst (v := 1) hx hb dX9_crack_11 rfl ?_
    refine ro_i (run_S (As := [.int (w), .int (0), .int (1)]) (rest := []) hC.1 ckX9_in (kX9_in l w 0 1) (gw_in m_1038 rfl) (fb_nil _) (fun _ _ _ => trivial) ⟨rfl, rfl, Nat.le_of_ble_eq_true rfl, Nat.le_of_ble_eq_true rfl⟩ rfl hl.1 rfl (Nat.le_of_ble_eq_true rfl) dX9_crack_12 ⟨Nat.le_of_ble_eq_true rfl, Nat.le_of_ble_eq_true rfl⟩) ?_
    refine lv_if_ne (tgt := 25) hx hb dX9_crack_15 (by decide) (fun c2 => ?_) (fun c2 => ?_)
    · skip
      have c2 := b2i_1 c2
      refine lv_aload_n hx hb dX9_crack_25 rfl (lv_at hl 0 rfl) ?_
      refine kget hC.1 hK (kP_app.mp hP).1 0 rfl rfl in_9 3 (by decide) (gw_in m_963 rfl) rfl dX9_crack_26 ?_
      refine lv_iload_n hx hb dX9_crack_29 rfl (lv_at hl 1 rfl) ?_
      refine lv_iload_n hx hb dX9_crack_30 rfl (lv_at hl 2 rfl) ?_
      refine ro_i (run_S (As := [.ref (o 2), .int (i), .int (j)]) (rest := []) hC.1 ckX9_canStrike (kX9_canStrike l g (o 2) r i j hw) (gw_in m_1136 rfl) (fb_ro _ _ _) (fun U hU hW => ⟨by rw [hU]; exact (kP_app.mp (kP_app.mp (kP_app.mp hP).2).2).1, kK_warm hW hK⟩) ⟨rfl, rfl, Nat.le_of_ble_eq_true rfl, Nat.le_of_ble_eq_true rfl⟩ rfl hl.1 rfl (Nat.le_of_ble_eq_true rfl) dX9_crack_31 ⟨Nat.le_of_ble_eq_true rfl, Nat.le_of_ble_eq_true rfl⟩) ?_
      refine lv_if_ne (tgt := 39) hx hb dX9_crack_34 (by decide) (fun c3 => ?_) (fun c3 => ?_)
      · skip
        have c3 := b2i_1 c3
        refine lv_aload_n hx hb dX9_crack_39 rfl (lv_at hl 0 rfl) ?_
        refine kget hC.1 hK (kP_app.mp hP).1 0 rfl rfl in_9 3 (by decide) (gw_in m_963 rfl) rfl dX9_crack_40 ?_
        refine lv_aload_n hx hb dX9_crack_43 rfl (lv_at hl 0 rfl) ?_
        refine kget hC.1 hK (kP_app.mp hP).1 0 rfl rfl in_9 4 (by decide) (gw_in m_964 rfl) rfl dX9_crack_44 ?_
        have hP : kP g (aW g (o 2) 45 r ++ (aW g (o 3) 45 tr ++ (mO g o ab be lm ra ta ti fa um ua hh ++ (aW g (o 1) 3 rf ++ [])))) _ := kP_perm ((((pmA _ (pm_swap _ _ _)).trans (pm_swap _ _ _)).trans (pmA _ (pmA _ (pm_swap _ _ _)))).trans (pmA _ (pm_swap _ _ _))) hP
        have hD : va_D _ (aW g (o 2) 45 r ++ (aW g (o 3) 45 tr ++ (mO g o ab be lm ra ta ti fa um ua hh ++ (aW g (o 1) 3 rf ++ [])))) := vD_perm ((((pmA _ (pm_swap _ _ _)).trans (pm_swap _ _ _)).trans (pmA _ (pmA _ (pm_swap _ _ _)))).trans (pmA _ (pm_swap _ _ _))) hD
        refine rw_v (run_S (As := [.ref (o 2), .ref (o 3)]) (rest := []) hC.1 ckX9_copies (kX9_copies l g (o 2) (o 3) r tr) (gw_in m_1175 rfl) (fb_rw _ _ _) (fun U hU hW => ⟨by rw [hU]; exact (kP_app.mpr ⟨(kP_app.mp hP).1, (kP_app.mpr ⟨(kP_app.mp (kP_app.mp hP).2).1, kP_nil⟩)⟩), kK_warm hW hK, vD_sub (sbA _ (sbA _ (sb0 _))) hD⟩) ⟨rfl, rfl, Nat.le_of_ble_eq_true rfl, Nat.le_of_ble_eq_true rfl⟩ rfl hl.1 rfl (Nat.le_of_ble_eq_true rfl) dX9_crack_47 ⟨Nat.le_of_ble_eq_true rfl, Nat.le_of_ble_eq_true rfl⟩) (adr_app rfl (adr_app aW_adr rfl)) (asc2 _ _ _) (ww' := aW g (o 2) 45 r ++ (aW g (o 3) 45 r ++ (mO g o ab be lm ra ta ti fa um ua hh ++ (aW g (o 1) 3 rf ++ [])))) (asc2 _ _ _) hP hD hS (fun H locs hP hD hS => ?_)
        refine lv_aload_n hx hb dX9_crack_50 rfl (lv_at hl 0 rfl) ?_
        refine kget hC.1 hK (kP_app.mp (kP_app.mp (kP_app.mp hP).2).2).1 0 rfl rfl in_9 4 (by decide) (gw_in m_964 rfl) rfl dX9_crack_51 ?_
        refine lv_iload_n hx hb dX9_crack_54 rfl (lv_at hl 1 rfl) ?_
        refine lv_iload_n hx hb dX9_crack_55 rfl (lv_at hl 2 rfl) ?_
        have hP : kP g (aW g (o 3) 45 r ++ (aW g (o 2) 45 r ++ (mO g o ab be lm ra ta ti fa um ua hh ++ (aW g (o 1) 3 rf ++ [])))) _ := kP_perm (pm_swap _ _ _) hP
        have hD : va_D _ (aW g (o 3) 45 r ++ (aW g (o 2) 45 r ++ (mO g o ab be lm ra ta ti fa um ua hh ++ (aW g (o 1) 3 rf ++ [])))) := vD_perm (pm_swap _ _ _) hD
        refine rw_v (run_S (As := [.ref (o 3), .int (i), .int (j)]) (rest := []) hC.1 ckX9_struck (kX9_struck l g (o 3) r i j hw c3) (gw_in m_1142 rfl) (fb_rw _ _ _) (fun U hU hW => ⟨by rw [hU]; exact (kP_app.mpr ⟨(kP_app.mp hP).1, kP_nil⟩), kK_warm hW hK, vD_sub (sbA _ (sb0 _)) hD⟩) ⟨rfl, rfl, Nat.le_of_ble_eq_true rfl, Nat.le_of_ble_eq_true rfl⟩ rfl hl.1 rfl (Nat.le_of_ble_eq_true rfl) dX9_crack_56 ⟨Nat.le_of_ble_eq_true rfl, Nat.le_of_ble_eq_true rfl⟩) (adr_app aW_adr rfl) (asc1 _ _) (ww' := aW g (o 3) 45 (stk r i j) ++ (aW g (o 2) 45 r ++ (mO g o ab be lm ra ta ti fa um ua hh ++ (aW g (o 1) 3 rf ++ [])))) (asc1 _ _) hP hD hS (fun H locs hP hD hS => ?_)
        refine lv_aload_n hx hb dX9_crack_59 rfl (lv_at hl 0 rfl) ?_
        refine kget hC.1 hK (kP_app.mp (kP_app.mp (kP_app.mp hP).2).2).1 0 rfl rfl in_9 4 (by decide) (gw_in m_964 rfl) rfl dX9_crack_60 ?_
        refine lv_bipush (v := 33) hx hb dX9_crack_63 rfl ?_
        refine lv_iload_n hx hb dX9_crack_65 rfl (lv_at hl 3 rfl) ?_
        refine lv_if_ne (tgt := 73) hx hb dX9_crack_66 (by decide) (fun c4 => ?_) (fun c4 => ?_)
        · skip
          refine lv_iload_n hx hb dX9_crack_73 rfl (lv_at hl 1 rfl) ?_
          refine lv_iadd hx hb dX9_crack_74 ?_
          refine kald (v := (stk r i j) (33 + cl i)) hC.1 hK (kP_app.mp hP).1 0 rfl (ix_in (K := 33) (yCan_in1 c3 hw.n6) (by omega) (by omega)) (congrArg (stk r i j) (show cl (33 + i) = 33 + cl i from ix_cl (K := 33) (yCan_in1 c3 hw.n6) (by omega))) dX9_crack_75 ?_
          have hP : kP g (mO g o ab be lm ra ta ti fa um ua hh ++ (aW g (o 1) 3 rf ++ (aW g (o 2) 45 r ++ (aW g (o 3) 45 (stk r i j) ++ [])))) _ := kP_perm (((((pmA _ (pm_swap _ _ _)).trans (pm_swap _ _ _)).trans (pmA _ (pmA _ (pm_swap _ _ _)))).trans (pmA _ (pm_swap _ _ _))).trans (pmA _ (pmA _ (pm_swap _ _ _)))) hP
          have hD : va_D _ (mO g o ab be lm ra ta ti fa um ua hh ++ (aW g (o 1) 3 rf ++ (aW g (o 2) 45 r ++ (aW g (o 3) 45 (stk r i j) ++ [])))) := vD_perm (((((pmA _ (pm_swap _ _ _)).trans (pm_swap _ _ _)).trans (pmA _ (pmA _ (pm_swap _ _ _)))).trans (pmA _ (pm_swap _ _ _))).trans (pmA _ (pmA _ (pm_swap _ _ _)))) hD
          exact ret_rxi (S := (Nat → Int32)) (stk r i j) hx hb hr hlk (by rw [if_pos (by rw [c1, c2]; rfl)]; simp [c3, c4]) (kP_eq (by rw [if_pos (by rw [c1, c2]; rfl)]) hP) hS dX9_crack_76
        · skip
          refine lv_iload_n hx hb dX9_crack_69 rfl (lv_at hl 2 rfl) ?_
          refine lv_goto (tgt := 74) hx hb dX9_crack_70 (by decide) ?_
          refine lv_iadd hx hb dX9_crack_74 ?_
          refine kald (v := (stk r i j) (33 + cl j)) hC.1 hK (kP_app.mp hP).1 0 rfl (ix_in (K := 33) (yCan_in2 c3 hw.n6) (by omega) (by omega)) (congrArg (stk r i j) (show cl (33 + j) = 33 + cl j from ix_cl (K := 33) (yCan_in2 c3 hw.n6) (by omega))) dX9_crack_75 ?_
          have hP : kP g (mO g o ab be lm ra ta ti fa um ua hh ++ (aW g (o 1) 3 rf ++ (aW g (o 2) 45 r ++ (aW g (o 3) 45 (stk r i j) ++ [])))) _ := kP_perm (((((pmA _ (pm_swap _ _ _)).trans (pm_swap _ _ _)).trans (pmA _ (pmA _ (pm_swap _ _ _)))).trans (pmA _ (pm_swap _ _ _))).trans (pmA _ (pmA _ (pm_swap _ _ _)))) hP
          have hD : va_D _ (mO g o ab be lm ra ta ti fa um ua hh ++ (aW g (o 1) 3 rf ++ (aW g (o 2) 45 r ++ (aW g (o 3) 45 (stk r i j) ++ [])))) := vD_perm (((((pmA _ (pm_swap _ _ _)).trans (pm_swap _ _ _)).trans (pmA _ (pmA _ (pm_swap _ _ _)))).trans (pmA _ (pm_swap _ _ _))).trans (pmA _ (pmA _ (pm_swap _ _ _)))) hD
          exact ret_rxi (S := (Nat → Int32)) (stk r i j) hx hb hr hlk (by rw [if_pos (by rw [c1, c2]; rfl)]; simp [c3, c4]) (kP_eq (by rw [if_pos (by rw [c1, c2]; rfl)]) hP) hS dX9_crack_76
      · skip
        have c3 := b2i_0 c3
        refine lv_iconst (v := -1) hx hb dX9_crack_37 rfl ?_
        exact ret_rxi (S := (Nat → Int32)) tr hx hb hr hlk (by rw [if_pos (by rw [c1, c2]; rfl)]; simp [c3]) (kP_eq (by rw [if_pos (by rw [c1, c2]; rfl)]) hP) hS dX9_crack_38
    · skip
      have c2 := b2i_0 c2
      refine lv_aload_n hx hb dX9_crack_18 rfl (lv_at hl 0 rfl) ?_
      refine lv_bipush (v := -2) hx hb dX9_crack_19 rfl ?_
      refine rw_i (run_V (As := [.int (-2)]) (rest := []) hC.1 ckX9_bad (kX9_bad l g o ab be lm ra ta ti fa um ua hh rf (-2)) (gw_in m_1041 rfl) (fb_rw _ _ _) (va_recv hK.1 (kP_app.mp hP).1 (q0 := 0) rfl rfl) (fun U hU hW => ⟨by rw [hU]; exact (kP_app.mpr ⟨(kP_app.mp hP).1, (kP_app.mpr ⟨(kP_app.mp (kP_app.mp hP).2).1, kP_nil⟩)⟩), kK_warm hW hK, vD_sub (sbA _ (sbA _ (sb0 _))) hD⟩) ⟨rfl, rfl, Nat.le_of_ble_eq_true rfl, Nat.le_of_ble_eq_true rfl⟩ rfl hl.1 rfl (Nat.le_of_ble_eq_true rfl) dX9_crack_21 ⟨Nat.le_of_ble_eq_true rfl, Nat.le_of_ble_eq_true rfl⟩) (adr_app rfl (adr_app aW_adr rfl)) (asc2 _ _ _) (ww' := mO g o ab be lm ra ta ti fa um ua hh ++ (aW g (o 1) 3 (upd rf 0 (rf 0 + 1)) ++ (aW g (o 2) 45 r ++ (aW g (o 3) 45 tr ++ [])))) (asc2 _ _ _) hP hD hS (fun H locs hP hD hS => ?_)
      exact ret_rxi (S := (Nat → Int32)) tr hx hb hr hlk (by simp only [c1, c2, if_true, if_false, eq_self, Bool.false_eq_true, Bool.and_true, Bool.true_and, Bool.and_false, Bool.false_and]) (kP_eq (by simp only [c1, c2, if_true, if_false, eq_self, Bool.false_eq_true, Bool.and_true, Bool.true_and, Bool.and_false, Bool.false_and]) hP) hS dX9_crack_24
set_option maxHeartbeats 4000000 in
set_option maxRecDepth 100000 in
theorem kX9_ended (l : Launch) (g : gG) (o : Nat → Nat) (ab be : Int64) (lm ra ta : Nat) (ti fa : Int32) (um ua : Nat) (hh : Int64) (r tr : Nat → Int32) (i j w : Int32) (b : Bool) (hw : Wf r) : Met l yX9_ended (.code yX9_ended cX9_ended 7 (some .int) :: gw) (rmN 4) (va_Pc [.ref (o 0), .int (i), .int (j), .int (w), .int (b2i b)] (rwPre g (mO g o ab be lm ra ta ti fa um ua hh ++ (aW g (o 2) 45 r ++ (aW g (o 3) 45 tr ++ []))))) (rxQi g (mO g o ab be lm ra ta ti fa um ua hh ++ (aW g (o 2) 45 r ++ (aW g (o 3) 45 tr ++ []))) (fun u9 : (Nat → Int32) => mO g o ab be lm ra ta ti fa um ua hh ++ (aW g (o 2) 45 r ++ (aW g (o 3) 45 u9 ++ []))) (if yCan r i j = true then enM (btF b i j 60 0 r) i j w else -1)) 0 0 (dm (mO g o ab be lm ra ta ti fa um ua hh ++ (aW g (o 2) 45 r ++ (aW g (o 3) 45 tr ++ [])))) := by
  refine met_start (by decide) (Nat.le_of_ble_eq_true rfl) ?_
  intro pp ee ss mm bl mt cd hC hpre ls hl
  obtain ⟨⟨hx, hb, hml, hown, hts⟩, hr, hlk, hnm⟩ := id hC
  have hl : lv_has ls 7 [(0, .ref (o 0)), (1, .int (i)), (2, .int (j)), (3, .int (w)), (4, .int (b2i b))] := hl
  obtain ⟨hP, hK, hD⟩ := hpre
  have hS : va_S (dm (mO g o ab be lm ra ta ti fa um ua hh ++ (aW g (o 2) 45 r ++ (aW g (o 3) 45 tr ++ [])))) ss.heap ss.heap [] := va_S.rf
  have hD := vD_self hD
  refine lv_aload_n hx hb dX9_ended_0 rfl (lv_at hl 0 rfl) ?_
  refine kget hC.1 hK (kP_app.mp hP).1 0 rfl rfl in_9 3 (by decide) (gw_in m_963 rfl) rfl dX9_ended_1 ?_
  refine lv_iload_n hx hb dX9_ended_4 rfl (lv_at hl 1 rfl) ?_
  refine lv_iload_n hx hb dX9_ended_5 rfl (lv_at hl 2 rfl) ?_
  refine ro_i (run_S (As := [.ref (o 2), .int (i), .int (j)]) (rest := []) hC.1 ckX9_canStrike (kX9_canStrike l g (o 2) r i j hw) (gw_in m_1136 rfl) (fb_ro _ _ _) (fun U hU hW => ⟨by rw [hU]; exact (kP_app.mp (kP_app.mp hP).2).1, kK_warm hW hK⟩) ⟨rfl, rfl, Nat.le_of_ble_eq_true rfl, Nat.le_of_ble_eq_true rfl⟩ rfl hl.1 rfl (Nat.le_of_ble_eq_true rfl) dX9_ended_6 ⟨Nat.le_of_ble_eq_true rfl, Nat.le_of_ble_eq_true rfl⟩) ?_
  refine lv_if_ne (tgt := 14) hx hb dX9_ended_9 (by decide) (fun c1 => ?_) (fun c1 => ?_)
  · skip
    have c1 := b2i_1 c1
    refine lv_aload_n hx hb dX9_ended_14 rfl (lv_at hl 0 rfl) ?_
    refine kget hC.1 hK (kP_app.mp hP).1 0 rfl rfl in_9 3 (by decide) (gw_in m_963 rfl) rfl dX9_ended_15 ?_
    refine lv_aload_n hx hb dX9_ended_18 rfl (lv_at hl 0 rfl) ?_
    refine kget hC.1 hK (kP_app.mp hP).1 0 rfl rfl in_9 4 (by decide) (gw_in m_964 rfl) rfl dX9_ended_19 ?_
    have hP : kP g (aW g (o 2) 45 r ++ (aW g (o 3) 45 tr ++ (mO g o ab be lm ra ta ti fa um ua hh ++ []))) _ := kP_perm ((pm_swap _ _ _).trans (pmA _ (pm_swap _ _ _))) hP
    have hD : va_D _ (aW g (o 2) 45 r ++ (aW g (o 3) 45 tr ++ (mO g o ab be lm ra ta ti fa um ua hh ++ []))) := vD_perm ((pm_swap _ _ _).trans (pmA _ (pm_swap _ _ _))) hD
    refine rw_v (run_S (As := [.ref (o 2), .ref (o 3)]) (rest := []) hC.1 ckX9_copies (kX9_copies l g (o 2) (o 3) r tr) (gw_in m_1175 rfl) (fb_rw _ _ _) (fun U hU hW => ⟨by rw [hU]; exact (kP_app.mpr ⟨(kP_app.mp hP).1, (kP_app.mpr ⟨(kP_app.mp (kP_app.mp hP).2).1, kP_nil⟩)⟩), kK_warm hW hK, vD_sub (sbA _ (sbA _ (sb0 _))) hD⟩) ⟨rfl, rfl, Nat.le_of_ble_eq_true rfl, Nat.le_of_ble_eq_true rfl⟩ rfl hl.1 rfl (Nat.le_of_ble_eq_true rfl) dX9_ended_22 ⟨Nat.le_of_ble_eq_true rfl, Nat.le_of_ble_eq_true rfl⟩) (adr_app rfl (adr_app aW_adr rfl)) (asc2 _ _ _) (ww' := aW g (o 2) 45 r ++ (aW g (o 3) 45 r ++ (mO g o ab be lm ra ta ti fa um ua hh ++ []))) (asc2 _ _ _) hP hD hS (fun H locs hP hD hS => ?_)
    refine lv_aload_n hx hb dX9_ended_25 rfl (lv_at hl 0 rfl) ?_
    refine kget hC.1 hK (kP_app.mp (kP_app.mp (kP_app.mp hP).2).2).1 0 rfl rfl in_9 4 (by decide) (gw_in m_964 rfl) rfl dX9_ended_26 ?_
    refine lv_iload_n hx hb dX9_ended_29 rfl (lv_at hl 1 rfl) ?_
    refine lv_iload_n hx hb dX9_ended_30 rfl (lv_at hl 2 rfl) ?_
    refine lv_iload hx hb dX9_ended_31 (lv_at hl 4 rfl) ?_
    have hP : kP g (aW g (o 3) 45 r ++ (aW g (o 2) 45 r ++ (mO g o ab be lm ra ta ti fa um ua hh ++ []))) _ := kP_perm (pm_swap _ _ _) hP
    have hD : va_D _ (aW g (o 3) 45 r ++ (aW g (o 2) 45 r ++ (mO g o ab be lm ra ta ti fa um ua hh ++ []))) := vD_perm (pm_swap _ _ _) hD
    refine rw_i (run_S (As := [.ref (o 3), .int (i), .int (j), .int (b2i b)]) (rest := []) hC.1 ckX9_bouts (kX9_bouts l g (o 3) r i j b hw (yCan_in1 c1 hw.n6) (yCan_in2 c1 hw.n6)) (gw_in m_1240 rfl) (fb_rw _ _ _) (fun U hU hW => ⟨by rw [hU]; exact (kP_app.mpr ⟨(kP_app.mp hP).1, kP_nil⟩), kK_warm hW hK, vD_sub (sbA _ (sb0 _)) hD⟩) ⟨rfl, rfl, Nat.le_of_ble_eq_true rfl, Nat.le_of_ble_eq_true rfl⟩ rfl hl.1 rfl (Nat.le_of_ble_eq_true rfl) dX9_ended_33 ⟨Nat.le_of_ble_eq_true rfl, Nat.le_of_ble_eq_true rfl⟩) (adr_app aW_adr rfl) (asc1 _ _) (ww' := aW g (o 3) 45 (btF b i j 60 0 r).2 ++ (aW g (o 2) 45 r ++ (mO g o ab be lm ra ta ti fa um ua hh ++ []))) (asc1 _ _) hP hD hS (fun H locs hP hD hS => ?_)
    refine lv_istore (lv' := [(5, .int (btX (btF b i j 60 0 r) i j)), (0, .ref (o 0)), (1, .int (i)), (2, .int (j)), (3, .int (w)), (4, .int (b2i b))]) hx hb dX9_ended_36 hl (by decide) rfl (fun ls hl => ?_)
    refine lv_aload_n hx hb dX9_ended_38 rfl (lv_at hl 1 rfl) ?_
    refine kget hC.1 hK (kP_app.mp (kP_app.mp (kP_app.mp hP).2).2).1 0 rfl rfl in_9 4 (by decide) (gw_in m_964 rfl) rfl dX9_ended_39 ?_
    refine lv_iload_n hx hb dX9_ended_42 rfl (lv_at hl 2 rfl) ?_
    refine lv_iload_n hx hb dX9_ended_43 rfl (lv_at hl 3 rfl) ?_
    refine ro_i (run_S (As := [.ref (o 3), .int (i), .int (j)]) (rest := []) hC.1 ckX9_leftOf (kX9_leftOf l g (o 3) (btF b i j 60 0 r).2 i j (yCan_in1 c1 hw.n6) (yCan_in2 c1 hw.n6)) (gw_in m_1243 rfl) (fb_ro _ _ _) (fun U hU hW => ⟨by rw [hU]; exact (kP_app.mp hP).1, kK_warm hW hK⟩) ⟨rfl, rfl, Nat.le_of_ble_eq_true rfl, Nat.le_of_ble_eq_true rfl⟩ rfl hl.1 rfl (Nat.le_of_ble_eq_true rfl) dX9_ended_44 ⟨Nat.le_of_ble_eq_true rfl, Nat.le_of_ble_eq_true rfl⟩) ?_
    refine lv_istore (lv' := [(6, .int (mLeft (btF b i j 60 0 r).2 i j)), (5, .int (btX (btF b i j 60 0 r) i j)), (0, .ref (o 0)), (1, .int (i)), (2, .int (j)), (3, .int (w)), (4, .int (b2i b))]) hx hb dX9_ended_47 hl (by decide) rfl (fun ls hl => ?_)
    refine lv_iload hx hb dX9_ended_49 (lv_at hl 1 rfl) ?_
    refine lv_iconst (v := -1) hx hb dX9_ended_51 rfl ?_
    refine lv_icmp_eq (tgt := 59) hx hb dX9_ended_52 (by decide) (fun c2 => ?_) (fun c2 => ?_)
    · skip
      refine lv_iload hx hb dX9_ended_59 (lv_at hl 1 rfl) ?_
      refine lv_goto (tgt := 90) hx hb dX9_ended_61 (by decide) ?_
      have hP : kP g (mO g o ab be lm ra ta ti fa um ua hh ++ (aW g (o 2) 45 r ++ (aW g (o 3) 45 (btF b i j 60 0 r).2 ++ []))) _ := kP_perm (((pmA _ (pm_swap _ _ _)).trans (pm_swap _ _ _)).trans (pmA _ (pm_swap _ _ _))) hP
      have hD : va_D _ (mO g o ab be lm ra ta ti fa um ua hh ++ (aW g (o 2) 45 r ++ (aW g (o 3) 45 (btF b i j 60 0 r).2 ++ []))) := vD_perm (((pmA _ (pm_swap _ _ _)).trans (pm_swap _ _ _)).trans (pmA _ (pm_swap _ _ _))) hD
      exact ret_rxi (S := (Nat → Int32)) (btF b i j 60 0 r).2 hx hb hr hlk (by simp [enM, c1, c2]) (hP) hS dX9_ended_90
    · skip
      refine lv_iload_n hx hb dX9_ended_55 rfl (lv_at hl 5 rfl) ?_
      refine lv_if_ne (tgt := 64) hx hb dX9_ended_56 (by decide) (fun c3 => ?_) (fun c3 => ?_)
      · skip
        refine lv_iload_n hx hb dX9_ended_64 rfl (lv_at hl 5 rfl) ?_
        refine lv_iconst (v := 1) hx hb dX9_ended_65 rfl ?_
        refine lv_icmp_eq (tgt := 75) hx hb dX9_ended_66 (by decide) (fun c4 => ?_) (fun c4 => ?_)
        · skip
          refine lv_iload hx hb dX9_ended_75 (lv_at hl 0 rfl) ?_
          refine lv_goto (tgt := 90) hx hb dX9_ended_77 (by decide) ?_
          have hP : kP g (mO g o ab be lm ra ta ti fa um ua hh ++ (aW g (o 2) 45 r ++ (aW g (o 3) 45 (btF b i j 60 0 r).2 ++ []))) _ := kP_perm (((pmA _ (pm_swap _ _ _)).trans (pm_swap _ _ _)).trans (pmA _ (pm_swap _ _ _))) hP
          have hD : va_D _ (mO g o ab be lm ra ta ti fa um ua hh ++ (aW g (o 2) 45 r ++ (aW g (o 3) 45 (btF b i j 60 0 r).2 ++ []))) := vD_perm (((pmA _ (pm_swap _ _ _)).trans (pm_swap _ _ _)).trans (pmA _ (pm_swap _ _ _))) hD
          exact ret_rxi (S := (Nat → Int32)) (btF b i j 60 0 r).2 hx hb hr hlk (by simp [enM, c1, c2, c3, c4]) (hP) hS dX9_ended_90
        · skip
          refine lv_iload hx hb dX9_ended_69 (lv_at hl 0 rfl) ?_
          refine lv_iconst (v := -1) hx hb dX9_ended_71 rfl ?_
          refine lv_icmp_ne (tgt := 80) hx hb dX9_ended_72 (by decide) (fun c5 => ?_) (fun c5 => ?_)
          · skip
            have hlf := c5
            refine lv_aload_n hx hb dX9_ended_80 rfl (lv_at hl 2 rfl) ?_
            refine kget hC.1 hK (kP_app.mp (kP_app.mp (kP_app.mp hP).2).2).1 0 rfl rfl in_9 4 (by decide) (gw_in m_964 rfl) rfl dX9_ended_81 ?_
            refine lv_bipush (v := 39) hx hb dX9_ended_84 rfl ?_
            refine lv_iload hx hb dX9_ended_86 (lv_at hl 0 rfl) ?_
            refine lv_iadd hx hb dX9_ended_88 ?_
            refine kald (v := (btF b i j 60 0 r).2 (39 + cl (mLeft (btF b i j 60 0 r).2 i j))) hC.1 hK (kP_app.mp hP).1 0 rfl (ix_in (K := 39) (mL_in hlf (yCan_in1 c1 hw.n6) (yCan_in2 c1 hw.n6)) (by omega) (by omega)) (congrArg (btF b i j 60 0 r).2 (ix_cl (K := 39) (mL_in hlf (yCan_in1 c1 hw.n6) (yCan_in2 c1 hw.n6)) (by omega))) dX9_ended_89 ?_
            have hP : kP g (mO g o ab be lm ra ta ti fa um ua hh ++ (aW g (o 2) 45 r ++ (aW g (o 3) 45 (btF b i j 60 0 r).2 ++ []))) _ := kP_perm (((pmA _ (pm_swap _ _ _)).trans (pm_swap _ _ _)).trans (pmA _ (pm_swap _ _ _))) hP
            have hD : va_D _ (mO g o ab be lm ra ta ti fa um ua hh ++ (aW g (o 2) 45 r ++ (aW g (o 3) 45 (btF b i j 60 0 r).2 ++ []))) := vD_perm (((pmA _ (pm_swap _ _ _)).trans (pm_swap _ _ _)).trans (pmA _ (pm_swap _ _ _))) hD
            exact ret_rxi (S := (Nat → Int32)) (btF b i j 60 0 r).2 hx hb hr hlk (by simp [enM, c1, c2, c3, c4, c5]) (hP) hS dX9_ended_90
          · skip
            refine lv_iload hx hb dX9_ended_75 (lv_at hl 0 rfl) ?_
            refine lv_goto (tgt := 90) hx hb dX9_ended_77 (by decide) ?_
            have hP : kP g (mO g o ab be lm ra ta ti fa um ua hh ++ (aW g (o 2) 45 r ++ (aW g (o 3) 45 (btF b i j 60 0 r).2 ++ []))) _ := kP_perm (((pmA _ (pm_swap _ _ _)).trans (pm_swap _ _ _)).trans (pmA _ (pm_swap _ _ _))) hP
            have hD : va_D _ (mO g o ab be lm ra ta ti fa um ua hh ++ (aW g (o 2) 45 r ++ (aW g (o 3) 45 (btF b i j 60 0 r).2 ++ []))) := vD_perm (((pmA _ (pm_swap _ _ _)).trans (pm_swap _ _ _)).trans (pmA _ (pm_swap _ _ _))) hD
            exact ret_rxi (S := (Nat → Int32)) (btF b i j 60 0 r).2 hx hb hr hlk (by simp [enM, c1, c2, c3, c4, c5]) (hP) hS dX9_ended_90
      · skip
        refine lv_iload hx hb dX9_ended_59 (lv_at hl 1 rfl) ?_
        refine lv_goto (tgt := 90) hx hb dX9_ended_61 (by decide) ?_
        have hP : kP g (mO g o ab be lm ra ta ti fa um ua hh ++ (aW g (o 2) 45 r ++ (aW g (o 3) 45 (btF b i j 60 0 r).2 ++ []))) _ := kP_perm (((pmA _ (pm_swap _ _ _)).trans (pm_swap _ _ _)).trans (pmA _ (pm_swap _ _ _))) hP
        have hD : va_D _ (mO g o ab be lm ra ta ti fa um ua hh ++ (aW g (o 2) 45 r ++ (aW g (o 3) 45 (btF b i j 60 0 r).2 ++ []))) := vD_perm (((pmA _ (pm_swap _ _ _)).trans (pm_swap _ _ _)).trans (pmA _ (pm_swap _ _ _))) hD
        exact ret_rxi (S := (Nat → Int32)) (btF b i j 60 0 r).2 hx hb hr hlk (by simp [enM, c1, c2, c3]) (hP) hS dX9_ended_90
  · skip
    have c1 := b2i_0 c1
    refine lv_iconst (v := -1) hx hb dX9_ended_12 rfl ?_
    exact ret_rxi (S := (Nat → Int32)) tr hx hb hr hlk (by simp [enM, c1]) (hP) hS dX9_ended_13
