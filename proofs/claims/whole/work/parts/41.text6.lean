theorem ckX5_readNumber : ckV yX5_readNumber cX5_readNumber 2 (some .boolean) 1 := ⟨(gw_in m_471 rfl), (gw_in m_68 rfl), ⟨(gw_in m_470 rfl), (gw_in m_8 rfl)⟩, by decide +kernel, by decide +kernel, by decide +kernel⟩
theorem ckX5_readWait : ckV yX5_readWait cX5_readWait 2 (some .boolean) 1 := ⟨(gw_in m_551 rfl), (gw_in m_68 rfl), ⟨(gw_in m_550 rfl), (gw_in m_16 rfl)⟩, by decide +kernel, by decide +kernel, by decide +kernel⟩
theorem ckX5_readPlayer : ckV yX5_readPlayer cX5_readPlayer 3 (some .boolean) 1 := ⟨(gw_in m_485 rfl), (gw_in m_68 rfl), ⟨(gw_in m_484 rfl), (gw_in m_11 rfl)⟩, by decide +kernel, by decide +kernel, by decide +kernel⟩
theorem ckX5_readNut : ckV yX5_readNut cX5_readNut 5 (some .boolean) 1 := ⟨(gw_in m_491 rfl), (gw_in m_68 rfl), ⟨(gw_in m_490 rfl), (gw_in m_12 rfl)⟩, by decide +kernel, by decide +kernel, by decide +kernel⟩
theorem ckX5_readStrike : ckV yX5_readStrike cX5_readStrike 3 (some .boolean) 1 := ⟨(gw_in m_497 rfl), (gw_in m_68 rfl), ⟨(gw_in m_496 rfl), (gw_in m_13 rfl)⟩, by decide +kernel, by decide +kernel, by decide +kernel⟩
set_option maxHeartbeats 4000000 in
set_option maxRecDepth 100000 in
theorem kX5_readNumber (l : Launch) (g : gG) (x : Nat → Nat) (N : Nat) (f : Nat → Int32) (T : T5) (a : Nat → Nat) (r : Nat → Int32)  (hN : N ≤ 150) (hbeh : T.2.2.2.1 ≤ N) (hw : Wf r) : Met l yX5_readNumber (.code yX5_readNumber cX5_readNumber 2 (some .boolean) :: gw) (rmN 4) (va_Pc [.ref (x 0), .ref (a 0)] (rwPre g (xT g x N f T ++ (yW g a r ++ [])))) (rwQi g (xT g x N f T ++ (yW g a r ++ [])) (xT g x N f (rdNum f N T r).2.1 ++ (yW g a (rdNum f N T r).2.2 ++ [])) (b2i (rdNum f N T r).1)) 0 0 (dm (xT g x N f T ++ (yW g a r ++ []))) := by
  refine met_start (by decide) (Nat.le_of_ble_eq_true rfl) ?_
  intro pp ee ss mm bl mt cd hC hpre ls hl
  obtain ⟨⟨hx, hb, hml, hown, hts⟩, hr, hlk, hnm⟩ := id hC
  have hl : lv_has ls 2 [(0, .ref (x 0)), (1, .ref (a 0))] := hl
  obtain ⟨hP, hK, hD⟩ := hpre
  have hS : va_S (dm (xT g x N f T ++ (yW g a r ++ []))) ss.heap ss.heap [] := va_S.rf
  have hD := vD_self hD
  refine lv_aload_n hx hb dX5_readNumber_0 rfl (lv_at hl 0 rfl) ?_
  refine lv_iconst (v := 0) hx hb dX5_readNumber_1 rfl ?_
  refine lv_bipush (v := 99) hx hb dX5_readNumber_2 rfl ?_
  refine rw_i (run_V (As := [.int (0), .int (99)]) (rest := []) hC.1 ckX5_take (kX5_take l g x N f T 0 99 hN hbeh) (gw_in m_472 rfl) (fb_rw _ _ _) (va_recv hK.1 (kP_app.mp hP).1 (q0 := 0) rfl rfl) (fun U hU hW => ⟨by rw [hU]; exact (kP_app.mpr ⟨(kP_app.mp hP).1, kP_nil⟩), kK_warm hW hK, vD_sub (sbA _ (sb0 _)) hD⟩) ⟨rfl, rfl, Nat.le_of_ble_eq_true rfl, Nat.le_of_ble_eq_true rfl⟩ rfl hl.1 rfl (Nat.le_of_ble_eq_true rfl) dX5_readNumber_4 ⟨Nat.le_of_ble_eq_true rfl, Nat.le_of_ble_eq_true rfl⟩) (adr_app xT_adr rfl) (asc1 _ _) (ww' := xT g x N f (tkT f N 0 99 T) ++ (yW g a r ++ [])) (asc1 _ _) hP hD hS (fun H locs hP hD hS => ?_)
  refine lv_if_ne (tgt := 12) hx hb dX5_readNumber_7 (by decide) (fun c1 => ?_) (fun c1 => ?_)
  · skip
    have c1 := b2i_1 c1
    have hbc1 := tk_beh hbeh c1
    have hP : kP g (xT g x N f (ntT f N T) ++ (yW g a r ++ [])) _ := kP_eq (by rw [show (tkT f N 0 99 T) = (ntT f N T) from if_pos c1]) hP
    have hD : va_D _ (xT g x N f (ntT f N T) ++ (yW g a r ++ [])) := vD_eq (by rw [show (tkT f N 0 99 T) = (ntT f N T) from if_pos c1]) hD
    refine lv_aload_n hx hb dX5_readNumber_12 rfl (lv_at hl 1 rfl) ?_
    refine lv_aload_n hx hb dX5_readNumber_13 rfl (lv_at hl 0 rfl) ?_
    refine kget hC.1 hK (kP_app.mp hP).1 0 rfl rfl in_5 6 (by decide) (gw_in m_216 rfl) rfl dX5_readNumber_14 ?_
    have hP : kP g (yW g a r ++ (xT g x N f (ntT f N T) ++ [])) _ := kP_perm (pm_swap _ _ _) hP
    have hD : va_D _ (yW g a r ++ (xT g x N f (ntT f N T) ++ [])) := vD_perm (pm_swap _ _ _) hD
    refine rw_v (run_V (As := [.int ((ntT f N T).2.2.2.2)]) (rest := []) hC.1 ckX7_restart (kX7_restart l g a r (ntT f N T).2.2.2.2) (gw_in m_388 rfl) (fb_rw _ _ _) (va_recv hK.1 (kP_app.mp hP).1 (q0 := 0) rfl rfl) (fun U hU hW => ⟨by rw [hU]; exact (kP_app.mpr ⟨(kP_app.mp hP).1, kP_nil⟩), kK_warm hW hK, vD_sub (sbA _ (sb0 _)) hD⟩) ⟨rfl, rfl, Nat.le_of_ble_eq_true rfl, Nat.le_of_ble_eq_true rfl⟩ rfl hl.1 rfl (Nat.le_of_ble_eq_true rfl) dX5_readNumber_17 ⟨Nat.le_of_ble_eq_true rfl, Nat.le_of_ble_eq_true rfl⟩) (adr_app yW_adr rfl) (asc1 _ _) (ww' := yW g a (upd (upd (upd r 1 0) 2 0) 0 (ntT f N T).2.2.2.2) ++ (xT g x N f (ntT f N T) ++ [])) (asc1 _ _) hP hD hS (fun H locs hP hD hS => ?_)
    refine lv_iconst (v := 1) hx hb dX5_readNumber_20 rfl ?_
    have hP : kP g (xT g x N f (ntT f N T) ++ (yW g a (upd (upd (upd r 1 0) 2 0) 0 (ntT f N T).2.2.2.2) ++ [])) _ := kP_perm (pm_swap _ _ _) hP
    have hD : va_D _ (xT g x N f (ntT f N T) ++ (yW g a (upd (upd (upd r 1 0) 2 0) 0 (ntT f N T).2.2.2.2) ++ [])) := vD_perm (pm_swap _ _ _) hD
    exact ret_rwz hx hb hr hlk rfl (by simp only [rdNum, c1, b2i, eq_self, if_true, if_false, Bool.false_eq_true]) (kP_eq (by simp only [rdNum, c1, eq_self, if_true, if_false, Bool.false_eq_true]) hP) hS dX5_readNumber_21
  · skip
    have c1 := b2i_0 c1
    have hP : kP g (xT g x N f (fhT N (ntT f N T)) ++ (yW g a r ++ [])) _ := kP_eq (by rw [show (tkT f N 0 99 T) = (fhT N (ntT f N T)) from if_neg (by rw [c1]; decide)]) hP
    have hD : va_D _ (xT g x N f (fhT N (ntT f N T)) ++ (yW g a r ++ [])) := vD_eq (by rw [show (tkT f N 0 99 T) = (fhT N (ntT f N T)) from if_neg (by rw [c1]; decide)]) hD
    refine lv_iconst (v := 0) hx hb dX5_readNumber_10 rfl ?_
    exact ret_rwz hx hb hr hlk rfl (by simp only [rdNum, c1, b2i, eq_self, if_true, if_false, Bool.false_eq_true]) (kP_eq (by simp only [rdNum, c1, eq_self, if_true, if_false, Bool.false_eq_true]) hP) hS dX5_readNumber_11
set_option maxHeartbeats 4000000 in
set_option maxRecDepth 100000 in
theorem kX5_readWait (l : Launch) (g : gG) (x : Nat → Nat) (N : Nat) (f : Nat → Int32) (T : T5) (a : Nat → Nat) (r : Nat → Int32)  (hN : N ≤ 150) (hbeh : T.2.2.2.1 ≤ N) (hw : Wf r) : Met l yX5_readWait (.code yX5_readWait cX5_readWait 2 (some .boolean) :: gw) (rmN 4) (va_Pc [.ref (x 0), .ref (a 0)] (rwPre g (xT g x N f T ++ (yW g a r ++ [])))) (rwQi g (xT g x N f T ++ (yW g a r ++ [])) (xT g x N f (rdWait f N T r).2.1 ++ (yW g a (rdWait f N T r).2.2 ++ [])) (b2i (rdWait f N T r).1)) 0 0 (dm (xT g x N f T ++ (yW g a r ++ []))) := by
  refine met_start (by decide) (Nat.le_of_ble_eq_true rfl) ?_
  intro pp ee ss mm bl mt cd hC hpre ls hl
  obtain ⟨⟨hx, hb, hml, hown, hts⟩, hr, hlk, hnm⟩ := id hC
  have hl : lv_has ls 2 [(0, .ref (x 0)), (1, .ref (a 0))] := hl
  obtain ⟨hP, hK, hD⟩ := hpre
  have hS : va_S (dm (xT g x N f T ++ (yW g a r ++ []))) ss.heap ss.heap [] := va_S.rf
  have hD := vD_self hD
  refine lv_aload_n hx hb dX5_readWait_0 rfl (lv_at hl 0 rfl) ?_
  refine lv_iconst (v := 1) hx hb dX5_readWait_1 rfl ?_
  refine lv_bipush (v := 99) hx hb dX5_readWait_2 rfl ?_
  refine rw_i (run_V (As := [.int (1), .int (99)]) (rest := []) hC.1 ckX5_take (kX5_take l g x N f T 1 99 hN hbeh) (gw_in m_472 rfl) (fb_rw _ _ _) (va_recv hK.1 (kP_app.mp hP).1 (q0 := 0) rfl rfl) (fun U hU hW => ⟨by rw [hU]; exact (kP_app.mpr ⟨(kP_app.mp hP).1, kP_nil⟩), kK_warm hW hK, vD_sub (sbA _ (sb0 _)) hD⟩) ⟨rfl, rfl, Nat.le_of_ble_eq_true rfl, Nat.le_of_ble_eq_true rfl⟩ rfl hl.1 rfl (Nat.le_of_ble_eq_true rfl) dX5_readWait_4 ⟨Nat.le_of_ble_eq_true rfl, Nat.le_of_ble_eq_true rfl⟩) (adr_app xT_adr rfl) (asc1 _ _) (ww' := xT g x N f (tkT f N 1 99 T) ++ (yW g a r ++ [])) (asc1 _ _) hP hD hS (fun H locs hP hD hS => ?_)
  refine lv_if_ne (tgt := 12) hx hb dX5_readWait_7 (by decide) (fun c1 => ?_) (fun c1 => ?_)
  · skip
    have c1 := b2i_1 c1
    have hbc1 := tk_beh hbeh c1
    have hP : kP g (xT g x N f (ntT f N T) ++ (yW g a r ++ [])) _ := kP_eq (by rw [show (tkT f N 1 99 T) = (ntT f N T) from if_pos c1]) hP
    have hD : va_D _ (xT g x N f (ntT f N T) ++ (yW g a r ++ [])) := vD_eq (by rw [show (tkT f N 1 99 T) = (ntT f N T) from if_pos c1]) hD
    refine lv_aload_n hx hb dX5_readWait_12 rfl (lv_at hl 1 rfl) ?_
    refine lv_aload_n hx hb dX5_readWait_13 rfl (lv_at hl 0 rfl) ?_
    refine kget hC.1 hK (kP_app.mp hP).1 0 rfl rfl in_5 6 (by decide) (gw_in m_216 rfl) rfl dX5_readWait_14 ?_
    have hP : kP g (yW g a r ++ (xT g x N f (ntT f N T) ++ [])) _ := kP_perm (pm_swap _ _ _) hP
    have hD : va_D _ (yW g a r ++ (xT g x N f (ntT f N T) ++ [])) := vD_perm (pm_swap _ _ _) hD
    refine rw_v (run_V (As := [.int ((ntT f N T).2.2.2.2)]) (rest := []) hC.1 ckX7_pass (kX7_pass l g a r (ntT f N T).2.2.2.2) (gw_in m_552 rfl) (fb_rw _ _ _) (va_recv hK.1 (kP_app.mp hP).1 (q0 := 0) rfl rfl) (fun U hU hW => ⟨by rw [hU]; exact (kP_app.mpr ⟨(kP_app.mp hP).1, kP_nil⟩), kK_warm hW hK, vD_sub (sbA _ (sb0 _)) hD⟩) ⟨rfl, rfl, Nat.le_of_ble_eq_true rfl, Nat.le_of_ble_eq_true rfl⟩ rfl hl.1 rfl (Nat.le_of_ble_eq_true rfl) dX5_readWait_17 ⟨Nat.le_of_ble_eq_true rfl, Nat.le_of_ble_eq_true rfl⟩) (adr_app yW_adr rfl) (asc1 _ _) (ww' := yW g a (upd r 0 (if r 0 + (ntT f N T).2.2.2.2 < 9999 then r 0 + (ntT f N T).2.2.2.2 else 9999)) ++ (xT g x N f (ntT f N T) ++ [])) (asc1 _ _) hP hD hS (fun H locs hP hD hS => ?_)
    refine lv_iconst (v := 1) hx hb dX5_readWait_20 rfl ?_
    have hP : kP g (xT g x N f (ntT f N T) ++ (yW g a (upd r 0 (if r 0 + (ntT f N T).2.2.2.2 < 9999 then r 0 + (ntT f N T).2.2.2.2 else 9999)) ++ [])) _ := kP_perm (pm_swap _ _ _) hP
    have hD : va_D _ (xT g x N f (ntT f N T) ++ (yW g a (upd r 0 (if r 0 + (ntT f N T).2.2.2.2 < 9999 then r 0 + (ntT f N T).2.2.2.2 else 9999)) ++ [])) := vD_perm (pm_swap _ _ _) hD
    exact ret_rwz hx hb hr hlk rfl (by simp only [rdWait, c1, b2i, eq_self, if_true, if_false, Bool.false_eq_true]) (kP_eq (by simp only [rdWait, c1, eq_self, if_true, if_false, Bool.false_eq_true]) hP) hS dX5_readWait_21
  · skip
    have c1 := b2i_0 c1
    have hP : kP g (xT g x N f (fhT N (ntT f N T)) ++ (yW g a r ++ [])) _ := kP_eq (by rw [show (tkT f N 1 99 T) = (fhT N (ntT f N T)) from if_neg (by rw [c1]; decide)]) hP
    have hD : va_D _ (xT g x N f (fhT N (ntT f N T)) ++ (yW g a r ++ [])) := vD_eq (by rw [show (tkT f N 1 99 T) = (fhT N (ntT f N T)) from if_neg (by rw [c1]; decide)]) hD
    refine lv_iconst (v := 0) hx hb dX5_readWait_10 rfl ?_
    exact ret_rwz hx hb hr hlk rfl (by simp only [rdWait, c1, b2i, eq_self, if_true, if_false, Bool.false_eq_true]) (kP_eq (by simp only [rdWait, c1, eq_self, if_true, if_false, Bool.false_eq_true]) hP) hS dX5_readWait_11
set_option maxHeartbeats 4000000 in
set_option maxRecDepth 100000 in
theorem kX5_readPlayer (l : Launch) (g : gG) (x : Nat → Nat) (N : Nat) (f : Nat → Int32) (T : T5) (a : Nat → Nat) (r : Nat → Int32)  (hN : N ≤ 150) (hbeh : T.2.2.2.1 ≤ N) (hw : Wf r) : Met l yX5_readPlayer (.code yX5_readPlayer cX5_readPlayer 3 (some .boolean) :: gw) (rmN 4) (va_Pc [.ref (x 0), .ref (a 0)] (rwPre g (xT g x N f T ++ (yW g a r ++ [])))) (rwQi g (xT g x N f T ++ (yW g a r ++ [])) (xT g x N f (rdPl f N T r).2.1 ++ (yW g a (rdPl f N T r).2.2 ++ [])) (b2i (rdPl f N T r).1)) 0 0 (dm (xT g x N f T ++ (yW g a r ++ []))) := by
  refine met_start (by decide) (Nat.le_of_ble_eq_true rfl) ?_
  intro pp ee ss mm bl mt cd hC hpre ls hl
  obtain ⟨⟨hx, hb, hml, hown, hts⟩, hr, hlk, hnm⟩ := id hC
  have hl : lv_has ls 3 [(0, .ref (x 0)), (1, .ref (a 0))] := hl
  obtain ⟨hP, hK, hD⟩ := hpre
  have hS : va_S (dm (xT g x N f T ++ (yW g a r ++ []))) ss.heap ss.heap [] := va_S.rf
  have hD := vD_self hD
  refine lv_aload_n hx hb dX5_readPlayer_0 rfl (lv_at hl 1 rfl) ?_
  refine kget hC.1 hK (kP_app.mp (kP_app.mp hP).2).1 0 rfl rfl in_7 0 (by decide) (gw_in m_101 rfl) rfl dX5_readPlayer_1 ?_
  refine lv_iconst (v := 3) hx hb dX5_readPlayer_4 rfl ?_
  refine lv_icmp_lt (tgt := 13) hx hb dX5_readPlayer_5 (by decide) (fun c1 => ?_) (fun c1 => ?_)
  · skip
    have c1' := Int32.not_le.mpr c1
    refine lv_aload_n hx hb dX5_readPlayer_13 rfl (lv_at hl 0 rfl) ?_
    refine lv_iconst (v := 0) hx hb dX5_readPlayer_14 rfl ?_
    refine lv_iconst (v := 5) hx hb dX5_readPlayer_15 rfl ?_
    refine rw_i (run_V (As := [.int (0), .int (5)]) (rest := []) hC.1 ckX5_take (kX5_take l g x N f T 0 5 hN hbeh) (gw_in m_472 rfl) (fb_rw _ _ _) (va_recv hK.1 (kP_app.mp hP).1 (q0 := 0) rfl rfl) (fun U hU hW => ⟨by rw [hU]; exact (kP_app.mpr ⟨(kP_app.mp hP).1, kP_nil⟩), kK_warm hW hK, vD_sub (sbA _ (sb0 _)) hD⟩) ⟨rfl, rfl, Nat.le_of_ble_eq_true rfl, Nat.le_of_ble_eq_true rfl⟩ rfl hl.1 rfl (Nat.le_of_ble_eq_true rfl) dX5_readPlayer_16 ⟨Nat.le_of_ble_eq_true rfl, Nat.le_of_ble_eq_true rfl⟩) (adr_app xT_adr rfl) (asc1 _ _) (ww' := xT g x N f (tkT f N 0 5 T) ++ (yW g a r ++ [])) (asc1 _ _) hP hD hS (fun H locs hP hD hS => ?_)
    refine lv_if_ne (tgt := 24) hx hb dX5_readPlayer_19 (by decide) (fun c2 => ?_) (fun c2 => ?_)
    · skip
      have c2 := b2i_1 c2
      have hbc2 := tk_beh hbeh c2
      have hP : kP g (xT g x N f (ntT f N T) ++ (yW g a r ++ [])) _ := kP_eq (by rw [show (tkT f N 0 5 T) = (ntT f N T) from if_pos c2]) hP
      have hD : va_D _ (xT g x N f (ntT f N T) ++ (yW g a r ++ [])) := vD_eq (by rw [show (tkT f N 0 5 T) = (ntT f N T) from if_pos c2]) hD
      refine lv_aload_n hx hb dX5_readPlayer_24 rfl (lv_at hl 0 rfl) ?_
      refine kget hC.1 hK (kP_app.mp hP).1 0 rfl rfl in_5 6 (by decide) (gw_in m_216 rfl) rfl dX5_readPlayer_25 ?_
      refine lv_istore_n (lv' := [(2, .int ((ntT f N T).2.2.2.2)), (0, .ref (x 0)), (1, .ref (a 0))]) hx hb dX5_readPlayer_28 rfl hl (by decide) rfl (fun ls hl => ?_)
      refine lv_aload_n hx hb dX5_readPlayer_29 rfl (lv_at hl 1 rfl) ?_
      refine lv_iconst (v := 1) hx hb dX5_readPlayer_30 rfl ?_
      refine lv_bipush (v := 9) hx hb dX5_readPlayer_31 rfl ?_
      refine rw_i (run_V (As := [.int (1), .int (9)]) (rest := []) hC.1 ckX5_take (kX5_take l g x N f (ntT f N T) 1 9 hN hbc2) (gw_in m_472 rfl) (fb_rw _ _ _) (va_recv hK.1 (kP_app.mp hP).1 (q0 := 0) rfl rfl) (fun U hU hW => ⟨by rw [hU]; exact (kP_app.mpr ⟨(kP_app.mp hP).1, kP_nil⟩), kK_warm hW hK, vD_sub (sbA _ (sb0 _)) hD⟩) ⟨rfl, rfl, Nat.le_of_ble_eq_true rfl, Nat.le_of_ble_eq_true rfl⟩ rfl hl.1 rfl (Nat.le_of_ble_eq_true rfl) dX5_readPlayer_33 ⟨Nat.le_of_ble_eq_true rfl, Nat.le_of_ble_eq_true rfl⟩) (adr_app xT_adr rfl) (asc1 _ _) (ww' := xT g x N f (tkT f N 1 9 (ntT f N T)) ++ (yW g a r ++ [])) (asc1 _ _) hP hD hS (fun H locs hP hD hS => ?_)
      refine lv_if_ne (tgt := 41) hx hb dX5_readPlayer_36 (by decide) (fun c3 => ?_) (fun c3 => ?_)
      · skip
        have c3 := b2i_1 c3
        have hbc3 := tk_beh hbc2 c3
        have hP : kP g (xT g x N f (ntT f N (ntT f N T)) ++ (yW g a r ++ [])) _ := kP_eq (by rw [show (tkT f N 1 9 (ntT f N T)) = (ntT f N (ntT f N T)) from if_pos c3]) hP
        have hD : va_D _ (xT g x N f (ntT f N (ntT f N T)) ++ (yW g a r ++ [])) := vD_eq (by rw [show (tkT f N 1 9 (ntT f N T)) = (ntT f N (ntT f N T)) from if_pos c3]) hD
        refine lv_aload_n hx hb dX5_readPlayer_41 rfl (lv_at hl 2 rfl) ?_
        refine lv_iload_n hx hb dX5_readPlayer_42 rfl (lv_at hl 0 rfl) ?_
        refine lv_aload_n hx hb dX5_readPlayer_43 rfl (lv_at hl 1 rfl) ?_
        refine kget hC.1 hK (kP_app.mp hP).1 0 rfl rfl in_5 6 (by decide) (gw_in m_216 rfl) rfl dX5_readPlayer_44 ?_
        have hP : kP g (yW g a r ++ (xT g x N f (ntT f N (ntT f N T)) ++ [])) _ := kP_perm (pm_swap _ _ _) hP
        have hD : va_D _ (yW g a r ++ (xT g x N f (ntT f N (ntT f N T)) ++ [])) := vD_perm (pm_swap _ _ _) hD
        refine rw_i (run_V (As := [.int ((ntT f N T).2.2.2.2), .int ((ntT f N (ntT f N T)).2.2.2.2)]) (rest := []) hC.1 ckX7_addPlayer (kX7_addPlayer l g a r (ntT f N T).2.2.2.2 (ntT f N (ntT f N T)).2.2.2.2 (pl_bd hw c1)) (gw_in m_486 rfl) (fb_rw _ _ _) (va_recv hK.1 (kP_app.mp hP).1 (q0 := 0) rfl rfl) (fun U hU hW => ⟨by rw [hU]; exact (kP_app.mpr ⟨(kP_app.mp hP).1, kP_nil⟩), kK_warm hW hK, vD_sub (sbA _ (sb0 _)) hD⟩) ⟨rfl, rfl, Nat.le_of_ble_eq_true rfl, Nat.le_of_ble_eq_true rfl⟩ rfl hl.1 rfl (Nat.le_of_ble_eq_true rfl) dX5_readPlayer_47 ⟨Nat.le_of_ble_eq_true rfl, Nat.le_of_ble_eq_true rfl⟩) (adr_app yW_adr rfl) (asc1 _ _) (ww' := yW g a (upd (upd (upd r (3 + cl (r 1)) (ntT f N T).2.2.2.2) (6 + cl (r 1)) (ntT f N (ntT f N T)).2.2.2.2) 1 (r 1 + 1)) ++ (xT g x N f (ntT f N (ntT f N T)) ++ [])) (asc1 _ _) hP hD hS (fun H locs hP hD hS => ?_)
        refine lv_pop hx hb dX5_readPlayer_50 rfl ?_
        refine lv_iconst (v := 1) hx hb dX5_readPlayer_51 rfl ?_
        have hP : kP g (xT g x N f (ntT f N (ntT f N T)) ++ (yW g a (upd (upd (upd r (3 + cl (r 1)) (ntT f N T).2.2.2.2) (6 + cl (r 1)) (ntT f N (ntT f N T)).2.2.2.2) 1 (r 1 + 1)) ++ [])) _ := kP_perm (pm_swap _ _ _) hP
        have hD : va_D _ (xT g x N f (ntT f N (ntT f N T)) ++ (yW g a (upd (upd (upd r (3 + cl (r 1)) (ntT f N T).2.2.2.2) (6 + cl (r 1)) (ntT f N (ntT f N T)).2.2.2.2) 1 (r 1 + 1)) ++ [])) := vD_perm (pm_swap _ _ _) hD
        exact ret_rwz hx hb hr hlk rfl (by simp only [rdPl, c1, c1', c2, c3, b2i, eq_self, if_true, if_false, Bool.false_eq_true]) (kP_eq (by simp only [rdPl, c1, c1', c2, c3, eq_self, if_true, if_false, Bool.false_eq_true]) hP) hS dX5_readPlayer_52
      · skip
        have c3 := b2i_0 c3
        have hP : kP g (xT g x N f (fhT N (ntT f N (ntT f N T))) ++ (yW g a r ++ [])) _ := kP_eq (by rw [show (tkT f N 1 9 (ntT f N T)) = (fhT N (ntT f N (ntT f N T))) from if_neg (by rw [c3]; decide)]) hP
        have hD : va_D _ (xT g x N f (fhT N (ntT f N (ntT f N T))) ++ (yW g a r ++ [])) := vD_eq (by rw [show (tkT f N 1 9 (ntT f N T)) = (fhT N (ntT f N (ntT f N T))) from if_neg (by rw [c3]; decide)]) hD
        refine lv_iconst (v := 0) hx hb dX5_readPlayer_39 rfl ?_
        exact ret_rwz hx hb hr hlk rfl (by simp only [rdPl, c1, c1', c2, c3, b2i, eq_self, if_true, if_false, Bool.false_eq_true]) (kP_eq (by simp only [rdPl, c1, c1', c2, c3, eq_self, if_true, if_false, Bool.false_eq_true]) hP) hS dX5_readPlayer_40
    · skip
      have c2 := b2i_0 c2
      have hP : kP g (xT g x N f (fhT N (ntT f N T)) ++ (yW g a r ++ [])) _ := kP_eq (by rw [show (tkT f N 0 5 T) = (fhT N (ntT f N T)) from if_neg (by rw [c2]; decide)]) hP
      have hD : va_D _ (xT g x N f (fhT N (ntT f N T)) ++ (yW g a r ++ [])) := vD_eq (by rw [show (tkT f N 0 5 T) = (fhT N (ntT f N T)) from if_neg (by rw [c2]; decide)]) hD
      refine lv_iconst (v := 0) hx hb dX5_readPlayer_22 rfl ?_
      exact ret_rwz hx hb hr hlk rfl (by simp only [rdPl, c1, c1', c2, b2i, eq_self, if_true, if_false, Bool.false_eq_true]) (kP_eq (by simp only [rdPl, c1, c1', c2, eq_self, if_true, if_false, Bool.false_eq_true]) hP) hS dX5_readPlayer_23
  · skip
    have c1' := Int32.not_lt.mp c1
    refine lv_aload_n hx hb dX5_readPlayer_8 rfl (lv_at hl 0 rfl) ?_
    refine rw_i (run_V (As := []) (rest := []) hC.1 ckX5_faultHere (kX5_faultHere_T l g x N f T) (gw_in m_477 rfl) (fb_rw _ _ _) (va_recv hK.1 (kP_app.mp hP).1 (q0 := 0) rfl rfl) (fun U hU hW => ⟨by rw [hU]; exact (kP_app.mpr ⟨(kP_app.mp hP).1, kP_nil⟩), kK_warm hW hK, vD_sub (sbA _ (sb0 _)) hD⟩) ⟨rfl, rfl, Nat.le_of_ble_eq_true rfl, Nat.le_of_ble_eq_true rfl⟩ rfl hl.1 rfl (Nat.le_of_ble_eq_true rfl) dX5_readPlayer_9 ⟨Nat.le_of_ble_eq_true rfl, Nat.le_of_ble_eq_true rfl⟩) (adr_app xT_adr rfl) (asc1 _ _) (ww' := xT g x N f (fhT N T) ++ (yW g a r ++ [])) (asc1 _ _) hP hD hS (fun H locs hP hD hS => ?_)
    exact ret_rwz hx hb hr hlk rfl (by simp only [rdPl, c1, c1', b2i, eq_self, if_true, if_false, Bool.false_eq_true]) (kP_eq (by simp only [rdPl, c1, c1', eq_self, if_true, if_false, Bool.false_eq_true]) hP) hS dX5_readPlayer_12
set_option maxHeartbeats 4000000 in
set_option maxRecDepth 100000 in
theorem kX5_readNut (l : Launch) (g : gG) (x : Nat → Nat) (N : Nat) (f : Nat → Int32) (T : T5) (a : Nat → Nat) (r : Nat → Int32)  (hN : N ≤ 150) (hbeh : T.2.2.2.1 ≤ N) (hw : Wf r) : Met l yX5_readNut (.code yX5_readNut cX5_readNut 5 (some .boolean) :: gw) (rmN 4) (va_Pc [.ref (x 0), .ref (a 0)] (rwPre g (xT g x N f T ++ (yW g a r ++ [])))) (rwQi g (xT g x N f T ++ (yW g a r ++ [])) (xT g x N f (rdNut f N T r).2.1 ++ (yW g a (rdNut f N T r).2.2 ++ [])) (b2i (rdNut f N T r).1)) 0 0 (dm (xT g x N f T ++ (yW g a r ++ []))) := by
  refine met_start (by decide) (Nat.le_of_ble_eq_true rfl) ?_
  intro pp ee ss mm bl mt cd hC hpre ls hl
  obtain ⟨⟨hx, hb, hml, hown, hts⟩, hr, hlk, hnm⟩ := id hC
  have hl : lv_has ls 5 [(0, .ref (x 0)), (1, .ref (a 0))] := hl
  obtain ⟨hP, hK, hD⟩ := hpre
  have hS : va_S (dm (xT g x N f T ++ (yW g a r ++ []))) ss.heap ss.heap [] := va_S.rf
  have hD := vD_self hD
  refine lv_aload_n hx hb dX5_readNut_0 rfl (lv_at hl 1 rfl) ?_
  refine kget hC.1 hK (kP_app.mp (kP_app.mp hP).2).1 0 rfl rfl in_7 1 (by decide) (gw_in m_104 rfl) rfl dX5_readNut_1 ?_
  refine lv_bipush (v := 6) hx hb dX5_readNut_4 rfl ?_
  refine lv_icmp_lt (tgt := 14) hx hb dX5_readNut_6 (by decide) (fun c1 => ?_) (fun c1 => ?_)
  · skip
    have c1' := Int32.not_le.mpr c1
    refine lv_aload_n hx hb dX5_readNut_14 rfl (lv_at hl 0 rfl) ?_
    refine lv_iconst (v := 0) hx hb dX5_readNut_15 rfl ?_
    refine lv_aload_n hx hb dX5_readNut_16 rfl (lv_at hl 1 rfl) ?_
    refine kget hC.1 hK (kP_app.mp (kP_app.mp hP).2).1 0 rfl rfl in_7 0 (by decide) (gw_in m_101 rfl) rfl dX5_readNut_17 ?_
    refine lv_iconst (v := 1) hx hb dX5_readNut_20 rfl ?_
    refine lv_isub hx hb dX5_readNut_21 ?_
    refine rw_i (run_V (As := [.int (0), .int ((r 1) - 1)]) (rest := []) hC.1 ckX5_take (kX5_take l g x N f T 0 ((r 1) - 1) hN hbeh) (gw_in m_472 rfl) (fb_rw _ _ _) (va_recv hK.1 (kP_app.mp hP).1 (q0 := 0) rfl rfl) (fun U hU hW => ⟨by rw [hU]; exact (kP_app.mpr ⟨(kP_app.mp hP).1, kP_nil⟩), kK_warm hW hK, vD_sub (sbA _ (sb0 _)) hD⟩) ⟨rfl, rfl, Nat.le_of_ble_eq_true rfl, Nat.le_of_ble_eq_true rfl⟩ rfl hl.1 rfl (Nat.le_of_ble_eq_true rfl) dX5_readNut_22 ⟨Nat.le_of_ble_eq_true rfl, Nat.le_of_ble_eq_true rfl⟩) (adr_app xT_adr rfl) (asc1 _ _) (ww' := xT g x N f (tkT f N 0 ((r 1) - 1) T) ++ (yW g a r ++ [])) (asc1 _ _) hP hD hS (fun H locs hP hD hS => ?_)
    refine lv_if_ne (tgt := 30) hx hb dX5_readNut_25 (by decide) (fun c2 => ?_) (fun c2 => ?_)
    · skip
      have c2 := b2i_1 c2
      have hbc2 := tk_beh hbeh c2
      have hP : kP g (xT g x N f (ntT f N T) ++ (yW g a r ++ [])) _ := kP_eq (by rw [show (tkT f N 0 ((r 1) - 1) T) = (ntT f N T) from if_pos c2]) hP
      have hD : va_D _ (xT g x N f (ntT f N T) ++ (yW g a r ++ [])) := vD_eq (by rw [show (tkT f N 0 ((r 1) - 1) T) = (ntT f N T) from if_pos c2]) hD
      refine lv_aload_n hx hb dX5_readNut_30 rfl (lv_at hl 0 rfl) ?_
      refine kget hC.1 hK (kP_app.mp hP).1 0 rfl rfl in_5 6 (by decide) (gw_in m_216 rfl) rfl dX5_readNut_31 ?_
      refine lv_istore_n (lv' := [(2, .int ((ntT f N T).2.2.2.2)), (0, .ref (x 0)), (1, .ref (a 0))]) hx hb dX5_readNut_34 rfl hl (by decide) rfl (fun ls hl => ?_)
      refine lv_aload_n hx hb dX5_readNut_35 rfl (lv_at hl 1 rfl) ?_
      refine lv_iconst (v := 0) hx hb dX5_readNut_36 rfl ?_
      refine lv_iconst (v := 5) hx hb dX5_readNut_37 rfl ?_
      refine rw_i (run_V (As := [.int (0), .int (5)]) (rest := []) hC.1 ckX5_take (kX5_take l g x N f (ntT f N T) 0 5 hN hbc2) (gw_in m_472 rfl) (fb_rw _ _ _) (va_recv hK.1 (kP_app.mp hP).1 (q0 := 0) rfl rfl) (fun U hU hW => ⟨by rw [hU]; exact (kP_app.mpr ⟨(kP_app.mp hP).1, kP_nil⟩), kK_warm hW hK, vD_sub (sbA _ (sb0 _)) hD⟩) ⟨rfl, rfl, Nat.le_of_ble_eq_true rfl, Nat.le_of_ble_eq_true rfl⟩ rfl hl.1 rfl (Nat.le_of_ble_eq_true rfl) dX5_readNut_38 ⟨Nat.le_of_ble_eq_true rfl, Nat.le_of_ble_eq_true rfl⟩) (adr_app xT_adr rfl) (asc1 _ _) (ww' := xT g x N f (tkT f N 0 5 (ntT f N T)) ++ (yW g a r ++ [])) (asc1 _ _) hP hD hS (fun H locs hP hD hS => ?_)
      refine lv_if_ne (tgt := 46) hx hb dX5_readNut_41 (by decide) (fun c3 => ?_) (fun c3 => ?_)
      · skip
        have c3 := b2i_1 c3
        have hbc3 := tk_beh hbc2 c3
        have hP : kP g (xT g x N f (ntT f N (ntT f N T)) ++ (yW g a r ++ [])) _ := kP_eq (by rw [show (tkT f N 0 5 (ntT f N T)) = (ntT f N (ntT f N T)) from if_pos c3]) hP
        have hD : va_D _ (xT g x N f (ntT f N (ntT f N T)) ++ (yW g a r ++ [])) := vD_eq (by rw [show (tkT f N 0 5 (ntT f N T)) = (ntT f N (ntT f N T)) from if_pos c3]) hD
        refine lv_aload_n hx hb dX5_readNut_46 rfl (lv_at hl 1 rfl) ?_
        refine kget hC.1 hK (kP_app.mp hP).1 0 rfl rfl in_5 6 (by decide) (gw_in m_216 rfl) rfl dX5_readNut_47 ?_
        refine lv_istore_n (lv' := [(3, .int ((ntT f N (ntT f N T)).2.2.2.2)), (2, .int ((ntT f N T).2.2.2.2)), (0, .ref (x 0)), (1, .ref (a 0))]) hx hb dX5_readNut_50 rfl hl (by decide) rfl (fun ls hl => ?_)
        refine lv_aload_n hx hb dX5_readNut_51 rfl (lv_at hl 2 rfl) ?_
        refine lv_iconst (v := 0) hx hb dX5_readNut_52 rfl ?_
        refine lv_bipush (v := 9) hx hb dX5_readNut_53 rfl ?_
        refine rw_i (run_V (As := [.int (0), .int (9)]) (rest := []) hC.1 ckX5_take (kX5_take l g x N f (ntT f N (ntT f N T)) 0 9 hN hbc3) (gw_in m_472 rfl) (fb_rw _ _ _) (va_recv hK.1 (kP_app.mp hP).1 (q0 := 0) rfl rfl) (fun U hU hW => ⟨by rw [hU]; exact (kP_app.mpr ⟨(kP_app.mp hP).1, kP_nil⟩), kK_warm hW hK, vD_sub (sbA _ (sb0 _)) hD⟩) ⟨rfl, rfl, Nat.le_of_ble_eq_true rfl, Nat.le_of_ble_eq_true rfl⟩ rfl hl.1 rfl (Nat.le_of_ble_eq_true rfl) dX5_readNut_55 ⟨Nat.le_of_ble_eq_true rfl, Nat.le_of_ble_eq_true rfl⟩) (adr_app xT_adr rfl) (asc1 _ _) (ww' := xT g x N f (tkT f N 0 9 (ntT f N (ntT f N T))) ++ (yW g a r ++ [])) (asc1 _ _) hP hD hS (fun H locs hP hD hS => ?_)
        refine lv_if_ne (tgt := 63) hx hb dX5_readNut_58 (by decide) (fun c4 => ?_) (fun c4 => ?_)
        · skip
          have c4 := b2i_1 c4
          have hbc4 := tk_beh hbc3 c4
          have hP : kP g (xT g x N f (ntT f N (ntT f N (ntT f N T))) ++ (yW g a r ++ [])) _ := kP_eq (by rw [show (tkT f N 0 9 (ntT f N (ntT f N T))) = (ntT f N (ntT f N (ntT f N T))) from if_pos c4]) hP
          have hD : va_D _ (xT g x N f (ntT f N (ntT f N (ntT f N T))) ++ (yW g a r ++ [])) := vD_eq (by rw [show (tkT f N 0 9 (ntT f N (ntT f N T))) = (ntT f N (ntT f N (ntT f N T))) from if_pos c4]) hD
          refine lv_aload_n hx hb dX5_readNut_63 rfl (lv_at hl 2 rfl) ?_
          refine kget hC.1 hK (kP_app.mp hP).1 0 rfl rfl in_5 6 (by decide) (gw_in m_216 rfl) rfl dX5_readNut_64 ?_
          refine lv_istore (lv' := [(4, .int ((ntT f N (ntT f N (ntT f N T))).2.2.2.2)), (3, .int ((ntT f N (ntT f N T)).2.2.2.2)), (2, .int ((ntT f N T).2.2.2.2)), (0, .ref (x 0)), (1, .ref (a 0))]) hx hb dX5_readNut_67 hl (by decide) rfl (fun ls hl => ?_)
          refine lv_aload_n hx hb dX5_readNut_69 rfl (lv_at hl 3 rfl) ?_
          refine lv_iconst (v := 1) hx hb dX5_readNut_70 rfl ?_
          refine lv_bipush (v := 9) hx hb dX5_readNut_71 rfl ?_
          refine rw_i (run_V (As := [.int (1), .int (9)]) (rest := []) hC.1 ckX5_take (kX5_take l g x N f (ntT f N (ntT f N (ntT f N T))) 1 9 hN hbc4) (gw_in m_472 rfl) (fb_rw _ _ _) (va_recv hK.1 (kP_app.mp hP).1 (q0 := 0) rfl rfl) (fun U hU hW => ⟨by rw [hU]; exact (kP_app.mpr ⟨(kP_app.mp hP).1, kP_nil⟩), kK_warm hW hK, vD_sub (sbA _ (sb0 _)) hD⟩) ⟨rfl, rfl, Nat.le_of_ble_eq_true rfl, Nat.le_of_ble_eq_true rfl⟩ rfl hl.1 rfl (Nat.le_of_ble_eq_true rfl) dX5_readNut_73 ⟨Nat.le_of_ble_eq_true rfl, Nat.le_of_ble_eq_true rfl⟩) (adr_app xT_adr rfl) (asc1 _ _) (ww' := xT g x N f (tkT f N 1 9 (ntT f N (ntT f N (ntT f N T)))) ++ (yW g a r ++ [])) (asc1 _ _) hP hD hS (fun H locs hP hD hS => ?_)
          refine lv_if_ne (tgt := 81) hx hb dX5_readNut_76 (by decide) (fun c5 => ?_) (fun c5 => ?_)
          · skip
            have c5 := b2i_1 c5
            have hbc5 := tk_beh hbc4 c5
            have hP : kP g (xT g x N f (ntT f N (ntT f N (ntT f N (ntT f N T)))) ++ (yW g a r ++ [])) _ := kP_eq (by rw [show (tkT f N 1 9 (ntT f N (ntT f N (ntT f N T)))) = (ntT f N (ntT f N (ntT f N (ntT f N T)))) from if_pos c5]) hP
            have hD : va_D _ (xT g x N f (ntT f N (ntT f N (ntT f N (ntT f N T)))) ++ (yW g a r ++ [])) := vD_eq (by rw [show (tkT f N 1 9 (ntT f N (ntT f N (ntT f N T)))) = (ntT f N (ntT f N (ntT f N (ntT f N T)))) from if_pos c5]) hD
            refine lv_aload_n hx hb dX5_readNut_81 rfl (lv_at hl 4 rfl) ?_
            refine lv_iload_n hx hb dX5_readNut_82 rfl (lv_at hl 2 rfl) ?_
            refine lv_iload_n hx hb dX5_readNut_83 rfl (lv_at hl 1 rfl) ?_
            refine lv_iload hx hb dX5_readNut_84 (lv_at hl 0 rfl) ?_
            refine lv_aload_n hx hb dX5_readNut_86 rfl (lv_at hl 3 rfl) ?_
            refine kget hC.1 hK (kP_app.mp hP).1 0 rfl rfl in_5 6 (by decide) (gw_in m_216 rfl) rfl dX5_readNut_87 ?_
            have hP : kP g (yW g a r ++ (xT g x N f (ntT f N (ntT f N (ntT f N (ntT f N T)))) ++ [])) _ := kP_perm (pm_swap _ _ _) hP
            have hD : va_D _ (yW g a r ++ (xT g x N f (ntT f N (ntT f N (ntT f N (ntT f N T)))) ++ [])) := vD_perm (pm_swap _ _ _) hD
            refine rw_i (run_V (As := [.int ((ntT f N T).2.2.2.2), .int ((ntT f N (ntT f N T)).2.2.2.2), .int ((ntT f N (ntT f N (ntT f N T))).2.2.2.2), .int ((ntT f N (ntT f N (ntT f N (ntT f N T)))).2.2.2.2)]) (rest := []) hC.1 ckX7_addNut (kX7_addNut l g a r (ntT f N T).2.2.2.2 (ntT f N (ntT f N T)).2.2.2.2 (ntT f N (ntT f N (ntT f N T))).2.2.2.2 (ntT f N (ntT f N (ntT f N (ntT f N T)))).2.2.2.2 (nu_bd hw c1)) (gw_in m_492 rfl) (fb_rw _ _ _) (va_recv hK.1 (kP_app.mp hP).1 (q0 := 0) rfl rfl) (fun U hU hW => ⟨by rw [hU]; exact (kP_app.mpr ⟨(kP_app.mp hP).1, kP_nil⟩), kK_warm hW hK, vD_sub (sbA _ (sb0 _)) hD⟩) ⟨rfl, rfl, Nat.le_of_ble_eq_true rfl, Nat.le_of_ble_eq_true rfl⟩ rfl hl.1 rfl (Nat.le_of_ble_eq_true rfl) dX5_readNut_90 ⟨Nat.le_of_ble_eq_true rfl, Nat.le_of_ble_eq_true rfl⟩) (adr_app yW_adr rfl) (asc1 _ _) (ww' := yW g a (upd (upd (upd (upd (upd (upd (upd r (9 + cl (r 2)) (ntT f N T).2.2.2.2) (15 + cl (r 2)) (ntT f N (ntT f N T)).2.2.2.2) (21 + cl (r 2)) (ntT f N (ntT f N (ntT f N T))).2.2.2.2) (27 + cl (r 2)) (ntT f N (ntT f N (ntT f N (ntT f N T)))).2.2.2.2) (33 + cl (r 2)) 0) (39 + cl (r 2)) 1) 2 (r 2 + 1)) ++ (xT g x N f (ntT f N (ntT f N (ntT f N (ntT f N T)))) ++ [])) (asc1 _ _) hP hD hS (fun H locs hP hD hS => ?_)
            refine lv_pop hx hb dX5_readNut_93 rfl ?_
            refine lv_iconst (v := 1) hx hb dX5_readNut_94 rfl ?_
            have hP : kP g (xT g x N f (ntT f N (ntT f N (ntT f N (ntT f N T)))) ++ (yW g a (upd (upd (upd (upd (upd (upd (upd r (9 + cl (r 2)) (ntT f N T).2.2.2.2) (15 + cl (r 2)) (ntT f N (ntT f N T)).2.2.2.2) (21 + cl (r 2)) (ntT f N (ntT f N (ntT f N T))).2.2.2.2) (27 + cl (r 2)) (ntT f N (ntT f N (ntT f N (ntT f N T)))).2.2.2.2) (33 + cl (r 2)) 0) (39 + cl (r 2)) 1) 2 (r 2 + 1)) ++ [])) _ := kP_perm (pm_swap _ _ _) hP
            have hD : va_D _ (xT g x N f (ntT f N (ntT f N (ntT f N (ntT f N T)))) ++ (yW g a (upd (upd (upd (upd (upd (upd (upd r (9 + cl (r 2)) (ntT f N T).2.2.2.2) (15 + cl (r 2)) (ntT f N (ntT f N T)).2.2.2.2) (21 + cl (r 2)) (ntT f N (ntT f N (ntT f N T))).2.2.2.2) (27 + cl (r 2)) (ntT f N (ntT f N (ntT f N (ntT f N T)))).2.2.2.2) (33 + cl (r 2)) 0) (39 + cl (r 2)) 1) 2 (r 2 + 1)) ++ [])) := vD_perm (pm_swap _ _ _) hD
            exact ret_rwz hx hb hr hlk rfl (by simp only [rdNut, c1, c1', c2, c3, c4, c5, b2i, eq_self, if_true, if_false, Bool.false_eq_true]) (kP_eq (by simp only [rdNut, c1, c1', c2, c3, c4, c5, eq_self, if_true, if_false, Bool.false_eq_true]) hP) hS dX5_readNut_95
          · skip
            have c5 := b2i_0 c5
            have hP : kP g (xT g x N f (fhT N (ntT f N (ntT f N (ntT f N (ntT f N T))))) ++ (yW g a r ++ [])) _ := kP_eq (by rw [show (tkT f N 1 9 (ntT f N (ntT f N (ntT f N T)))) = (fhT N (ntT f N (ntT f N (ntT f N (ntT f N T))))) from if_neg (by rw [c5]; decide)]) hP
            have hD : va_D _ (xT g x N f (fhT N (ntT f N (ntT f N (ntT f N (ntT f N T))))) ++ (yW g a r ++ [])) := vD_eq (by rw [show (tkT f N 1 9 (ntT f N (ntT f N (ntT f N T)))) = (fhT N (ntT f N (ntT f N (ntT f N (ntT f N T))))) from if_neg (by rw [c5]; decide)]) hD
            refine lv_iconst (v := 0) hx hb dX5_readNut_79 rfl ?_
            exact ret_rwz hx hb hr hlk rfl (by simp only [rdNut, c1, c1', c2, c3, c4, c5, b2i, eq_self, if_true, if_false, Bool.false_eq_true]) (kP_eq (by simp only [rdNut, c1, c1', c2, c3, c4, c5, eq_self, if_true, if_false, Bool.false_eq_true]) hP) hS dX5_readNut_80
        · skip
          have c4 := b2i_0 c4
          have hP : kP g (xT g x N f (fhT N (ntT f N (ntT f N (ntT f N T)))) ++ (yW g a r ++ [])) _ := kP_eq (by rw [show (tkT f N 0 9 (ntT f N (ntT f N T))) = (fhT N (ntT f N (ntT f N (ntT f N T)))) from if_neg (by rw [c4]; decide)]) hP
          have hD : va_D _ (xT g x N f (fhT N (ntT f N (ntT f N (ntT f N T)))) ++ (yW g a r ++ [])) := vD_eq (by rw [show (tkT f N 0 9 (ntT f N (ntT f N T))) = (fhT N (ntT f N (ntT f N (ntT f N T)))) from if_neg (by rw [c4]; decide)]) hD
          refine lv_iconst (v := 0) hx hb dX5_readNut_61 rfl ?_
          exact ret_rwz hx hb hr hlk rfl (by simp only [rdNut, c1, c1', c2, c3, c4, b2i, eq_self, if_true, if_false, Bool.false_eq_true]) (kP_eq (by simp only [rdNut, c1, c1', c2, c3, c4, eq_self, if_true, if_false, Bool.false_eq_true]) hP) hS dX5_readNut_62
      · skip
        have c3 := b2i_0 c3
        have hP : kP g (xT g x N f (fhT N (ntT f N (ntT f N T))) ++ (yW g a r ++ [])) _ := kP_eq (by rw [show (tkT f N 0 5 (ntT f N T)) = (fhT N (ntT f N (ntT f N T))) from if_neg (by rw [c3]; decide)]) hP
        have hD : va_D _ (xT g x N f (fhT N (ntT f N (ntT f N T))) ++ (yW g a r ++ [])) := vD_eq (by rw [show (tkT f N 0 5 (ntT f N T)) = (fhT N (ntT f N (ntT f N T))) from if_neg (by rw [c3]; decide)]) hD
        refine lv_iconst (v := 0) hx hb dX5_readNut_44 rfl ?_
        exact ret_rwz hx hb hr hlk rfl (by simp only [rdNut, c1, c1', c2, c3, b2i, eq_self, if_true, if_false, Bool.false_eq_true]) (kP_eq (by simp only [rdNut, c1, c1', c2, c3, eq_self, if_true, if_false, Bool.false_eq_true]) hP) hS dX5_readNut_45
    · skip
      have c2 := b2i_0 c2
      have hP : kP g (xT g x N f (fhT N (ntT f N T)) ++ (yW g a r ++ [])) _ := kP_eq (by rw [show (tkT f N 0 ((r 1) - 1) T) = (fhT N (ntT f N T)) from if_neg (by rw [c2]; decide)]) hP
      have hD : va_D _ (xT g x N f (fhT N (ntT f N T)) ++ (yW g a r ++ [])) := vD_eq (by rw [show (tkT f N 0 ((r 1) - 1) T) = (fhT N (ntT f N T)) from if_neg (by rw [c2]; decide)]) hD
      refine lv_iconst (v := 0) hx hb dX5_readNut_28 rfl ?_
      exact ret_rwz hx hb hr hlk rfl (by simp only [rdNut, c1, c1', c2, b2i, eq_self, if_true, if_false, Bool.false_eq_true]) (kP_eq (by simp only [rdNut, c1, c1', c2, eq_self, if_true, if_false, Bool.false_eq_true]) hP) hS dX5_readNut_29
  · skip
    have c1' := Int32.not_lt.mp c1
    refine lv_aload_n hx hb dX5_readNut_9 rfl (lv_at hl 0 rfl) ?_
    refine rw_i (run_V (As := []) (rest := []) hC.1 ckX5_faultHere (kX5_faultHere_T l g x N f T) (gw_in m_477 rfl) (fb_rw _ _ _) (va_recv hK.1 (kP_app.mp hP).1 (q0 := 0) rfl rfl) (fun U hU hW => ⟨by rw [hU]; exact (kP_app.mpr ⟨(kP_app.mp hP).1, kP_nil⟩), kK_warm hW hK, vD_sub (sbA _ (sb0 _)) hD⟩) ⟨rfl, rfl, Nat.le_of_ble_eq_true rfl, Nat.le_of_ble_eq_true rfl⟩ rfl hl.1 rfl (Nat.le_of_ble_eq_true rfl) dX5_readNut_10 ⟨Nat.le_of_ble_eq_true rfl, Nat.le_of_ble_eq_true rfl⟩) (adr_app xT_adr rfl) (asc1 _ _) (ww' := xT g x N f (fhT N T) ++ (yW g a r ++ [])) (asc1 _ _) hP hD hS (fun H locs hP hD hS => ?_)
    exact ret_rwz hx hb hr hlk rfl (by simp only [rdNut, c1, c1', b2i, eq_self, if_true, if_false, Bool.false_eq_true]) (kP_eq (by simp only [rdNut, c1, c1', eq_self, if_true, if_false, Bool.false_eq_true]) hP) hS dX5_readNut_13
set_option maxHeartbeats 4000000 in
set_option maxRecDepth 100000 in
theorem kX5_readStrike (l : Launch) (g : gG) (x : Nat → Nat) (N : Nat) (f : Nat → Int32) (T : T5) (a : Nat → Nat) (r : Nat → Int32)  (hN : N ≤ 150) (hbeh : T.2.2.2.1 ≤ N) (hw : Wf r) : Met l yX5_readStrike (.code yX5_readStrike cX5_readStrike 3 (some .boolean) :: gw) (rmN 4) (va_Pc [.ref (x 0), .ref (a 0)] (rwPre g (xT g x N f T ++ (yW g a r ++ [])))) (rwQi g (xT g x N f T ++ (yW g a r ++ [])) (xT g x N f (rdStk f N T r).2.1 ++ (yW g a (rdStk f N T r).2.2 ++ [])) (b2i (rdStk f N T r).1)) 0 0 (dm (xT g x N f T ++ (yW g a r ++ []))) := by
  refine met_start (by decide) (Nat.le_of_ble_eq_true rfl) ?_
  intro pp ee ss mm bl mt cd hC hpre ls hl
  obtain ⟨⟨hx, hb, hml, hown, hts⟩, hr, hlk, hnm⟩ := id hC
  have hl : lv_has ls 3 [(0, .ref (x 0)), (1, .ref (a 0))] := hl
  obtain ⟨hP, hK, hD⟩ := hpre
  have hS : va_S (dm (xT g x N f T ++ (yW g a r ++ []))) ss.heap ss.heap [] := va_S.rf
  have hD := vD_self hD
  refine lv_aload_n hx hb dX5_readStrike_0 rfl (lv_at hl 0 rfl) ?_
  refine lv_iconst (v := 0) hx hb dX5_readStrike_1 rfl ?_
  refine lv_aload_n hx hb dX5_readStrike_2 rfl (lv_at hl 1 rfl) ?_
  refine kget hC.1 hK (kP_app.mp (kP_app.mp hP).2).1 0 rfl rfl in_7 1 (by decide) (gw_in m_104 rfl) rfl dX5_readStrike_3 ?_
  refine lv_iconst (v := 1) hx hb dX5_readStrike_6 rfl ?_
  refine lv_isub hx hb dX5_readStrike_7 ?_
  refine rw_i (run_V (As := [.int (0), .int ((r 2) - 1)]) (rest := []) hC.1 ckX5_take (kX5_take l g x N f T 0 ((r 2) - 1) hN hbeh) (gw_in m_472 rfl) (fb_rw _ _ _) (va_recv hK.1 (kP_app.mp hP).1 (q0 := 0) rfl rfl) (fun U hU hW => ⟨by rw [hU]; exact (kP_app.mpr ⟨(kP_app.mp hP).1, kP_nil⟩), kK_warm hW hK, vD_sub (sbA _ (sb0 _)) hD⟩) ⟨rfl, rfl, Nat.le_of_ble_eq_true rfl, Nat.le_of_ble_eq_true rfl⟩ rfl hl.1 rfl (Nat.le_of_ble_eq_true rfl) dX5_readStrike_8 ⟨Nat.le_of_ble_eq_true rfl, Nat.le_of_ble_eq_true rfl⟩) (adr_app xT_adr rfl) (asc1 _ _) (ww' := xT g x N f (tkT f N 0 ((r 2) - 1) T) ++ (yW g a r ++ [])) (asc1 _ _) hP hD hS (fun H locs hP hD hS => ?_)
  refine lv_if_ne (tgt := 16) hx hb dX5_readStrike_11 (by decide) (fun c1 => ?_) (fun c1 => ?_)
  · skip
    have c1 := b2i_1 c1
    have hbc1 := tk_beh hbeh c1
    have hP : kP g (xT g x N f (ntT f N T) ++ (yW g a r ++ [])) _ := kP_eq (by rw [show (tkT f N 0 ((r 2) - 1) T) = (ntT f N T) from if_pos c1]) hP
    have hD : va_D _ (xT g x N f (ntT f N T) ++ (yW g a r ++ [])) := vD_eq (by rw [show (tkT f N 0 ((r 2) - 1) T) = (ntT f N T) from if_pos c1]) hD
    refine lv_aload_n hx hb dX5_readStrike_16 rfl (lv_at hl 0 rfl) ?_
    refine kget hC.1 hK (kP_app.mp hP).1 0 rfl rfl in_5 6 (by decide) (gw_in m_216 rfl) rfl dX5_readStrike_17 ?_
    refine lv_istore_n (lv' := [(2, .int ((ntT f N T).2.2.2.2)), (0, .ref (x 0)), (1, .ref (a 0))]) hx hb dX5_readStrike_20 rfl hl (by decide) rfl (fun ls hl => ?_)
    refine lv_aload_n hx hb dX5_readStrike_21 rfl (lv_at hl 2 rfl) ?_
    refine lv_iload_n hx hb dX5_readStrike_22 rfl (lv_at hl 0 rfl) ?_
    refine ro_i (run_V (As := [.int ((ntT f N T).2.2.2.2)]) (rest := []) hC.1 ckX7_isBroken (kX7_isBroken l g a r (ntT f N T).2.2.2.2 hw.n6) (gw_in m_498 rfl) (fb_ro _ _ _) (va_recv hK.1 (kP_app.mp (kP_app.mp hP).2).1 (q0 := 0) rfl rfl) (fun U hU hW => ⟨by rw [hU]; exact (kP_app.mp (kP_app.mp hP).2).1, kK_warm hW hK⟩) ⟨rfl, rfl, Nat.le_of_ble_eq_true rfl, Nat.le_of_ble_eq_true rfl⟩ rfl hl.1 rfl (Nat.le_of_ble_eq_true rfl) dX5_readStrike_23 ⟨Nat.le_of_ble_eq_true rfl, Nat.le_of_ble_eq_true rfl⟩) ?_
    refine lv_if_eq (tgt := 34) hx hb dX5_readStrike_26 (by decide) (fun c2 => ?_) (fun c2 => ?_)
    · skip
      have c2 := b2i_0 c2
      refine lv_aload_n hx hb dX5_readStrike_34 rfl (lv_at hl 1 rfl) ?_
      refine lv_iconst (v := 0) hx hb dX5_readStrike_35 rfl ?_
      refine lv_aload_n hx hb dX5_readStrike_36 rfl (lv_at hl 2 rfl) ?_
      refine kget hC.1 hK (kP_app.mp (kP_app.mp hP).2).1 0 rfl rfl in_7 1 (by decide) (gw_in m_104 rfl) rfl dX5_readStrike_37 ?_
      refine lv_iconst (v := 1) hx hb dX5_readStrike_40 rfl ?_
      refine lv_isub hx hb dX5_readStrike_41 ?_
      refine rw_i (run_V (As := [.int (0), .int ((r 2) - 1)]) (rest := []) hC.1 ckX5_take (kX5_take l g x N f (ntT f N T) 0 ((r 2) - 1) hN hbc1) (gw_in m_472 rfl) (fb_rw _ _ _) (va_recv hK.1 (kP_app.mp hP).1 (q0 := 0) rfl rfl) (fun U hU hW => ⟨by rw [hU]; exact (kP_app.mpr ⟨(kP_app.mp hP).1, kP_nil⟩), kK_warm hW hK, vD_sub (sbA _ (sb0 _)) hD⟩) ⟨rfl, rfl, Nat.le_of_ble_eq_true rfl, Nat.le_of_ble_eq_true rfl⟩ rfl hl.1 rfl (Nat.le_of_ble_eq_true rfl) dX5_readStrike_42 ⟨Nat.le_of_ble_eq_true rfl, Nat.le_of_ble_eq_true rfl⟩) (adr_app xT_adr rfl) (asc1 _ _) (ww' := xT g x N f (tkT f N 0 ((r 2) - 1) (ntT f N T)) ++ (yW g a r ++ [])) (asc1 _ _) hP hD hS (fun H locs hP hD hS => ?_)
      refine lv_if_ne (tgt := 50) hx hb dX5_readStrike_45 (by decide) (fun c3 => ?_) (fun c3 => ?_)
      · skip
        have c3 := b2i_1 c3
        have hbc3 := tk_beh hbc1 c3
        have hP : kP g (xT g x N f (ntT f N (ntT f N T)) ++ (yW g a r ++ [])) _ := kP_eq (by rw [show (tkT f N 0 ((r 2) - 1) (ntT f N T)) = (ntT f N (ntT f N T)) from if_pos c3]) hP
        have hD : va_D _ (xT g x N f (ntT f N (ntT f N T)) ++ (yW g a r ++ [])) := vD_eq (by rw [show (tkT f N 0 ((r 2) - 1) (ntT f N T)) = (ntT f N (ntT f N T)) from if_pos c3]) hD
        refine lv_aload_n hx hb dX5_readStrike_50 rfl (lv_at hl 2 rfl) ?_
        refine lv_iload_n hx hb dX5_readStrike_51 rfl (lv_at hl 0 rfl) ?_
        refine lv_aload_n hx hb dX5_readStrike_52 rfl (lv_at hl 1 rfl) ?_
        refine kget hC.1 hK (kP_app.mp hP).1 0 rfl rfl in_5 6 (by decide) (gw_in m_216 rfl) rfl dX5_readStrike_53 ?_
        have hP : kP g (yW g a r ++ (xT g x N f (ntT f N (ntT f N T)) ++ [])) _ := kP_perm (pm_swap _ _ _) hP
        have hD : va_D _ (yW g a r ++ (xT g x N f (ntT f N (ntT f N T)) ++ [])) := vD_perm (pm_swap _ _ _) hD
        refine rw_i (run_V (As := [.int ((ntT f N T).2.2.2.2), .int ((ntT f N (ntT f N T)).2.2.2.2)]) (rest := []) hC.1 ckX7_strike (kX7_strike l g a r (ntT f N T).2.2.2.2 (ntT f N (ntT f N T)).2.2.2.2 hw) (gw_in m_506 rfl) (fb_rw _ _ _) (va_recv hK.1 (kP_app.mp hP).1 (q0 := 0) rfl rfl) (fun U hU hW => ⟨by rw [hU]; exact (kP_app.mpr ⟨(kP_app.mp hP).1, kP_nil⟩), kK_warm hW hK, vD_sub (sbA _ (sb0 _)) hD⟩) ⟨rfl, rfl, Nat.le_of_ble_eq_true rfl, Nat.le_of_ble_eq_true rfl⟩ rfl hl.1 rfl (Nat.le_of_ble_eq_true rfl) dX5_readStrike_56 ⟨Nat.le_of_ble_eq_true rfl, Nat.le_of_ble_eq_true rfl⟩) (adr_app yW_adr rfl) (asc1 _ _) (ww' := yW g a (if yCan r (ntT f N T).2.2.2.2 (ntT f N (ntT f N T)).2.2.2.2 = true then stk r (ntT f N T).2.2.2.2 (ntT f N (ntT f N T)).2.2.2.2 else r) ++ (xT g x N f (ntT f N (ntT f N T)) ++ [])) (asc1 _ _) hP hD hS (fun H locs hP hD hS => ?_)
        refine lv_if_ne (tgt := 69) hx hb dX5_readStrike_59 (by decide) (fun c4 => ?_) (fun c4 => ?_)
        · skip
          have c4 := b2i_1 c4
          refine lv_iconst (v := 1) hx hb dX5_readStrike_69 rfl ?_
          refine lv_goto (tgt := 74) hx hb dX5_readStrike_70 (by decide) ?_
          have hP : kP g (xT g x N f (ntT f N (ntT f N T)) ++ (yW g a (if yCan r (ntT f N T).2.2.2.2 (ntT f N (ntT f N T)).2.2.2.2 = true then stk r (ntT f N T).2.2.2.2 (ntT f N (ntT f N T)).2.2.2.2 else r) ++ [])) _ := kP_perm (pm_swap _ _ _) hP
          have hD : va_D _ (xT g x N f (ntT f N (ntT f N T)) ++ (yW g a (if yCan r (ntT f N T).2.2.2.2 (ntT f N (ntT f N T)).2.2.2.2 = true then stk r (ntT f N T).2.2.2.2 (ntT f N (ntT f N T)).2.2.2.2 else r) ++ [])) := vD_perm (pm_swap _ _ _) hD
          exact ret_rwz hx hb hr hlk rfl (by simp only [rdStk, c1, c2, c3, c4, b2i, eq_self, if_true, if_false, Bool.false_eq_true]) (kP_eq (by simp only [rdStk, c1, c2, c3, c4, eq_self, if_true, if_false, Bool.false_eq_true]) hP) hS dX5_readStrike_74
        · skip
          have c4 := b2i_0 c4
          refine lv_aload_n hx hb dX5_readStrike_62 rfl (lv_at hl 1 rfl) ?_
          have hP : kP g (xT g x N f (ntT f N (ntT f N T)) ++ (yW g a (if yCan r (ntT f N T).2.2.2.2 (ntT f N (ntT f N T)).2.2.2.2 = true then stk r (ntT f N T).2.2.2.2 (ntT f N (ntT f N T)).2.2.2.2 else r) ++ [])) _ := kP_perm (pm_swap _ _ _) hP
          have hD : va_D _ (xT g x N f (ntT f N (ntT f N T)) ++ (yW g a (if yCan r (ntT f N T).2.2.2.2 (ntT f N (ntT f N T)).2.2.2.2 = true then stk r (ntT f N T).2.2.2.2 (ntT f N (ntT f N T)).2.2.2.2 else r) ++ [])) := vD_perm (pm_swap _ _ _) hD
          refine rw_i (run_V (As := []) (rest := []) hC.1 ckX5_faultHere (kX5_faultHere_T l g x N f (ntT f N (ntT f N T))) (gw_in m_477 rfl) (fb_rw _ _ _) (va_recv hK.1 (kP_app.mp hP).1 (q0 := 0) rfl rfl) (fun U hU hW => ⟨by rw [hU]; exact (kP_app.mpr ⟨(kP_app.mp hP).1, kP_nil⟩), kK_warm hW hK, vD_sub (sbA _ (sb0 _)) hD⟩) ⟨rfl, rfl, Nat.le_of_ble_eq_true rfl, Nat.le_of_ble_eq_true rfl⟩ rfl hl.1 rfl (Nat.le_of_ble_eq_true rfl) dX5_readStrike_63 ⟨Nat.le_of_ble_eq_true rfl, Nat.le_of_ble_eq_true rfl⟩) (adr_app xT_adr rfl) (asc1 _ _) (ww' := xT g x N f (fhT N (ntT f N (ntT f N T))) ++ (yW g a (if yCan r (ntT f N T).2.2.2.2 (ntT f N (ntT f N T)).2.2.2.2 = true then stk r (ntT f N T).2.2.2.2 (ntT f N (ntT f N T)).2.2.2.2 else r) ++ [])) (asc1 _ _) hP hD hS (fun H locs hP hD hS => ?_)
          refine top_i (x := b2i false) (y := 0) rfl ?_
          refine lv_if_eq (tgt := 73) hx hb dX5_readStrike_66 (by decide) (fun c5 => ?_) (fun c5 => ?_)
          · skip
            refine lv_iconst (v := 0) hx hb dX5_readStrike_73 rfl ?_
            exact ret_rwz hx hb hr hlk rfl (by simp only [rdStk, c1, c2, c3, c4, b2i, eq_self, if_true, if_false, Bool.false_eq_true]) (kP_eq (by simp only [rdStk, c1, c2, c3, c4, eq_self, if_true, if_false, Bool.false_eq_true]) hP) hS dX5_readStrike_74
          · skip
            exact absurd c5 (by decide)
      · skip
        have c3 := b2i_0 c3
        have hP : kP g (xT g x N f (fhT N (ntT f N (ntT f N T))) ++ (yW g a r ++ [])) _ := kP_eq (by rw [show (tkT f N 0 ((r 2) - 1) (ntT f N T)) = (fhT N (ntT f N (ntT f N T))) from if_neg (by rw [c3]; decide)]) hP
        have hD : va_D _ (xT g x N f (fhT N (ntT f N (ntT f N T))) ++ (yW g a r ++ [])) := vD_eq (by rw [show (tkT f N 0 ((r 2) - 1) (ntT f N T)) = (fhT N (ntT f N (ntT f N T))) from if_neg (by rw [c3]; decide)]) hD
        refine lv_iconst (v := 0) hx hb dX5_readStrike_48 rfl ?_
        exact ret_rwz hx hb hr hlk rfl (by simp only [rdStk, c1, c2, c3, b2i, eq_self, if_true, if_false, Bool.false_eq_true]) (kP_eq (by simp only [rdStk, c1, c2, c3, eq_self, if_true, if_false, Bool.false_eq_true]) hP) hS dX5_readStrike_49
    · skip
      have c2 := b2i_1 c2
      refine lv_aload_n hx hb dX5_readStrike_29 rfl (lv_at hl 1 rfl) ?_
      refine rw_i (run_V (As := []) (rest := []) hC.1 ckX5_faultHere (kX5_faultHere_T l g x N f (ntT f N T)) (gw_in m_477 rfl) (fb_rw _ _ _) (va_recv hK.1 (kP_app.mp hP).1 (q0 := 0) rfl rfl) (fun U hU hW => ⟨by rw [hU]; exact (kP_app.mpr ⟨(kP_app.mp hP).1, kP_nil⟩), kK_warm hW hK, vD_sub (sbA _ (sb0 _)) hD⟩) ⟨rfl, rfl, Nat.le_of_ble_eq_true rfl, Nat.le_of_ble_eq_true rfl⟩ rfl hl.1 rfl (Nat.le_of_ble_eq_true rfl) dX5_readStrike_30 ⟨Nat.le_of_ble_eq_true rfl, Nat.le_of_ble_eq_true rfl⟩) (adr_app xT_adr rfl) (asc1 _ _) (ww' := xT g x N f (fhT N (ntT f N T)) ++ (yW g a r ++ [])) (asc1 _ _) hP hD hS (fun H locs hP hD hS => ?_)
      exact ret_rwz hx hb hr hlk rfl (by simp only [rdStk, c1, c2, b2i, eq_self, if_true, if_false, Bool.false_eq_true]) (kP_eq (by simp only [rdStk, c1, c2, eq_self, if_true, if_false, Bool.false_eq_true]) hP) hS dX5_readStrike_33
  · skip
    have c1 := b2i_0 c1
    have hP : kP g (xT g x N f (fhT N (ntT f N T)) ++ (yW g a r ++ [])) _ := kP_eq (by rw [show (tkT f N 0 ((r 2) - 1) T) = (fhT N (ntT f N T)) from if_neg (by rw [c1]; decide)]) hP
    have hD : va_D _ (xT g x N f (fhT N (ntT f N T)) ++ (yW g a r ++ [])) := vD_eq (by rw [show (tkT f N 0 ((r 2) - 1) T) = (fhT N (ntT f N T)) from if_neg (by rw [c1]; decide)]) hD
    refine lv_iconst (v := 0) hx hb dX5_readStrike_14 rfl ?_
    exact ret_rwz hx hb hr hlk rfl (by simp only [rdStk, c1, b2i, eq_self, if_true, if_false, Bool.false_eq_true]) (kP_eq (by simp only [rdStk, c1, eq_self, if_true, if_false, Bool.false_eq_true]) hP) hS dX5_readStrike_15
