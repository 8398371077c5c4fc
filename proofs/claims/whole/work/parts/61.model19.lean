theorem ckX9_note : ckV yX9_note cX9_note 8 (some .int) 6 := ⟨(gw_in m_1302 rfl), (gw_in m_71 rfl), ⟨(gw_in m_1300 rfl), (gw_in m_1301 rfl)⟩, by decide +kernel, by decide +kernel, by decide +kernel⟩
theorem ckX9_mark : ckV yX9_mark cX9_mark 7 (some .int) 5 := ⟨(gw_in m_1318 rfl), (gw_in m_71 rfl), ⟨(gw_in m_1316 rfl), (gw_in m_1317 rfl)⟩, by decide +kernel, by decide +kernel, by decide +kernel⟩
theorem ckX9_forget : ckV yX9_forget cX9_forget 4 (some .int) 1 := ⟨(gw_in m_1322 rfl), (gw_in m_71 rfl), ⟨(gw_in m_1320 rfl), (gw_in m_1321 rfl)⟩, by decide +kernel, by decide +kernel, by decide +kernel⟩
def fgK (w : Int32) : Nat := if w = 0 then 0 else if w = 1 then 26 else 63
set_option maxHeartbeats 4000000 in
set_option maxRecDepth 100000 in
theorem kX9_note (l : Launch) (g : gG) (o : Nat → Nat) (ab be : Int64) (lm ra ta : Nat) (ti fa : Int32) (um ua : Nat) (hh : Int64) (rf : Nat → Int32) (r tl : Nat → Int32) (S : Nat) (i h t c f x : Int32) (hw : Wf r) (hS0 : tl 26 = nI S) (hS5 : S ≤ 6) : Met l yX9_note (.code yX9_note cX9_note 8 (some .int) :: gw) (rmN 2) (va_Pc [.ref (o 0), .int (i), .int (h), .int (t), .int (c), .int (f), .int (x)] (rwPre g (mO g o ab be lm ra ta ti fa um ua hh ++ (aW g (o 1) 3 rf ++ (aW g (o 2) 45 r ++ (aW g (o 5) 94 tl ++ [])))))) (rwQi g (mO g o ab be lm ra ta ti fa um ua hh ++ (aW g (o 1) 3 rf ++ (aW g (o 2) 45 r ++ (aW g (o 5) 94 tl ++ [])))) (mO g o ab be lm ra ta ti fa um ua hh ++ (aW g (o 1) 3 (if (yNut r i && wth h 0 9 && wth t 0 99 && wth c 0 9 && wth f 0 44 && wth x 0 60) = true then (if S = 6 then upd rf 2 (rf 2 + 1) else rf) else upd rf 0 (rf 0 + 1)) ++ (aW g (o 2) 45 r ++ (aW g (o 5) 94 (if (yNut r i && wth h 0 9 && wth t 0 99 && wth c 0 9 && wth f 0 44 && wth x 0 60) = true then (if S = 6 then tl else upd (upd (upd (upd (upd (upd (upd tl (27 + 6 * S) i) (27 + 6 * S + 1) h) (27 + 6 * S + 2) t) (27 + 6 * S + 3) c) (27 + 6 * S + 4) f) (27 + 6 * S + 5) x) 26 (nI (S + 1))) else tl) ++ [])))) (if (yNut r i && wth h 0 9 && wth t 0 99 && wth c 0 9 && wth f 0 44 && wth x 0 60) = true then (if S = 6 then -4 else nI (S + 1)) else -2)) 0 0 (dm (mO g o ab be lm ra ta ti fa um ua hh ++ (aW g (o 1) 3 rf ++ (aW g (o 2) 45 r ++ (aW g (o 5) 94 tl ++ []))))) := by
  refine met_start (by decide) (Nat.le_of_ble_eq_true rfl) ?_
  intro pp ee ss mm bl mt cd hC hpre ls hl
  obtain ⟨⟨hx, hb, hml, hown, hts⟩, hr, hlk, hnm⟩ := id hC
  have hl : lv_has ls 8 [(0, .ref (o 0)), (1, .int (i)), (2, .int (h)), (3, .int (t)), (4, .int (c)), (5, .int (f)), (6, .int (x))] := hl
  obtain ⟨hP, hK, hD⟩ := hpre
  have hS : va_S (dm (mO g o ab be lm ra ta ti fa um ua hh ++ (aW g (o 1) 3 rf ++ (aW g (o 2) 45 r ++ (aW g (o 5) 94 tl ++ []))))) ss.heap ss.heap [] := va_S.rf
  have hD := vD_self hD
  refine lv_aload_n hx hb dX9_note_0 rfl (lv_at hl 0 rfl) ?_
  refine kget hC.1 hK (kP_app.mp hP).1 0 rfl rfl in_9 3 (by decide) (gw_in m_963 rfl) rfl dX9_note_1 ?_
  refine lv_iload_n hx hb dX9_note_4 rfl (lv_at hl 1 rfl) ?_
  refine ro_i (run_S (As := [.ref (o 2), .int (i)]) (rest := []) hC.1 ckX9_isNut (kX9_isNut l g (o 2) r i hw) (gw_in m_1139 rfl) (fb_ro _ _ _) (fun U hU hW => ⟨by rw [hU]; exact (kP_app.mp (kP_app.mp (kP_app.mp hP).2).2).1, kK_warm hW hK⟩) ⟨rfl, rfl, Nat.le_of_ble_eq_true rfl, Nat.le_of_ble_eq_true rfl⟩ rfl hl.1 rfl (Nat.le_of_ble_eq_true rfl) dX9_note_5 ⟨Nat.le_of_ble_eq_true rfl, Nat.le_of_ble_eq_true rfl⟩) ?_
  refine lv_if_eq (tgt := 64) hx hb dX9_note_8 (by decide) (fun c1 => ?_) (fun c1 => ?_)
  · skip
    have c1 := b2i_0 c1
    refine lv_aload_n hx hb dX9_note_64 rfl (lv_at hl 0 rfl) ?_
    refine lv_bipush (v := -2) hx hb dX9_note_65 rfl ?_
    refine rw_i (run_V (As := [.int (-2)]) (rest := []) hC.1 ckX9_bad (kX9_bad l g o ab be lm ra ta ti fa um ua hh rf (-2)) (gw_in m_1041 rfl) (fb_rw _ _ _) (va_recv hK.1 (kP_app.mp hP).1 (q0 := 0) rfl rfl) (fun U hU hW => ⟨by rw [hU]; exact (kP_app.mpr ⟨(kP_app.mp hP).1, (kP_app.mpr ⟨(kP_app.mp (kP_app.mp hP).2).1, kP_nil⟩)⟩), kK_warm hW hK, vD_sub (sbA _ (sbA _ (sb0 _))) hD⟩) ⟨rfl, rfl, Nat.le_of_ble_eq_true rfl, Nat.le_of_ble_eq_true rfl⟩ rfl hl.1 rfl (Nat.le_of_ble_eq_true rfl) dX9_note_67 ⟨Nat.le_of_ble_eq_true rfl, Nat.le_of_ble_eq_true rfl⟩) (adr_app rfl (adr_app aW_adr rfl)) (asc2 _ _ _) (ww' := mO g o ab be lm ra ta ti fa um ua hh ++ (aW g (o 1) 3 (upd rf 0 (rf 0 + 1)) ++ (aW g (o 2) 45 r ++ (aW g (o 5) 94 tl ++ [])))) (asc2 _ _ _) hP hD hS (fun H locs hP hD hS => ?_)
    exact ret_rwi hx hb hr hlk (by simp only [c1, if_true, if_false, eq_self, Bool.false_eq_true, Bool.and_true, Bool.true_and, Bool.and_false, Bool.false_and]) (kP_eq (by simp only [c1, if_true, if_false, eq_self, Bool.false_eq_true, Bool.and_true, Bool.true_and, Bool.and_false, Bool.false_and]) hP) hS dX9_note_70
  · skip
    have c1 := b2i_1 c1
    refine lv_iload_n hx hb dX9_note_11 rfl (lv_at hl 2 rfl) ?_
    refine lv_iconst (v := 0) hx hb dX9_note_12 rfl ?_
    refine lv_bipush (v := 9) hx hb dX9_note_13 rfl ?_
    refine ro_i (run_S (As := [.int (h), .int (0), .int (9)]) (rest := []) hC.1 ckX9_in (kX9_in l h 0 9) (gw_in m_1038 rfl) (fb_nil _) (fun _ _ _ => trivial) ⟨rfl, rfl, Nat.le_of_ble_eq_true rfl, Nat.le_of_ble_eq_true rfl⟩ rfl hl.1 rfl (Nat.le_of_ble_eq_true rfl) dX9_note_15 ⟨Nat.le_of_ble_eq_true rfl, Nat.le_of_ble_eq_true rfl⟩) ?_
    refine lv_if_eq (tgt := 64) hx hb dX9_note_18 (by decide) (fun c2 => ?_) (fun c2 => ?_)
    · skip
      have c2 := b2i_0 c2
      refine lv_aload_n hx hb dX9_note_64 rfl (lv_at hl 0 rfl) ?_
      refine lv_bipush (v := -2) hx hb dX9_note_65 rfl ?_
      refine rw_i (run_V (As := [.int (-2)]) (rest := []) hC.1 ckX9_bad (kX9_bad l g o ab be lm ra ta ti fa um ua hh rf (-2)) (gw_in m_1041 rfl) (fb_rw _ _ _) (va_recv hK.1 (kP_app.mp hP).1 (q0 := 0) rfl rfl) (fun U hU hW => ⟨by rw [hU]; exact (kP_app.mpr ⟨(kP_app.mp hP).1, (kP_app.mpr ⟨(kP_app.mp (kP_app.mp hP).2).1, kP_nil⟩)⟩), kK_warm hW hK, vD_sub (sbA _ (sbA _ (sb0 _))) hD⟩) ⟨rfl, rfl, Nat.le_of_ble_eq_true rfl, Nat.le_of_ble_eq_true rfl⟩ rfl hl.1 rfl (Nat.le_of_ble_eq_true rfl) dX9_note_67 ⟨Nat.le_of_ble_eq_true rfl, Nat.le_of_ble_eq_true rfl⟩) (adr_app rfl (adr_app aW_adr rfl)) (asc2 _ _ _) (ww' := mO g o ab be lm ra ta ti fa um ua hh ++ (aW g (o 1) 3 (upd rf 0 (rf 0 + 1)) ++ (aW g (o 2) 45 r ++ (aW g (o 5) 94 tl ++ [])))) (asc2 _ _ _) hP hD hS (fun H locs hP hD hS => ?_)
      exact ret_rwi hx hb hr hlk (by simp only [c1, c2, if_true, if_false, eq_self, Bool.false_eq_true, Bool.and_true, Bool.true_and, Bool.and_false, Bool.false_and]) (kP_eq (by simp only [c1, c2, if_true, if_false, eq_self, Bool.false_eq_true, Bool.and_true, Bool.true_and, Bool.and_false, Bool.false_and]) hP) hS dX9_note_70
    · skip
      have c2 := b2i_1 c2
      refine lv_iload_n hx hb dX9_note_21 rfl (lv_at hl 3 rfl) ?_
      refine lv_iconst (v := 0) hx hb dX9_note_22 rfl ?_
      refine lv_bipush (v := 99) hx hb dX9_note_23 rfl ?_
      refine ro_i (run_S (As := [.int (t), .int (0), .int (99)]) (rest := []) hC.1 ckX9_in (kX9_in l t 0 99) (gw_in m_1038 rfl) (fb_nil _) (fun _ _ _ => trivial) ⟨rfl, rfl, Nat.le_of_ble_eq_true rfl, Nat.le_of_ble_eq_true rfl⟩ rfl hl.1 rfl (Nat.le_of_ble_eq_true rfl) dX9_note_25 ⟨Nat.le_of_ble_eq_true rfl, Nat.le_of_ble_eq_true rfl⟩) ?_
      refine lv_if_eq (tgt := 64) hx hb dX9_note_28 (by decide) (fun c3 => ?_) (fun c3 => ?_)
      · skip
        have c3 := b2i_0 c3
        refine lv_aload_n hx hb dX9_note_64 rfl (lv_at hl 0 rfl) ?_
        refine lv_bipush (v := -2) hx hb dX9_note_65 rfl ?_
        refine rw_i (run_V (As := [.int (-2)]) (rest := []) hC.1 ckX9_bad (kX9_bad l g o ab be lm ra ta ti fa um ua hh rf (-2)) (gw_in m_1041 rfl) (fb_rw _ _ _) (va_recv hK.1 (kP_app.mp hP).1 (q0 := 0) rfl rfl) (fun U hU hW => ⟨by rw [hU]; exact (kP_app.mpr ⟨(kP_app.mp hP).1, (kP_app.mpr ⟨(kP_app.mp (kP_app.mp hP).2).1, kP_nil⟩)⟩), kK_warm hW hK, vD_sub (sbA _ (sbA _ (sb0 _))) hD⟩) ⟨rfl, rfl, Nat.le_of_ble_eq_true rfl, Nat.le_of_ble_eq_true rfl⟩ rfl hl.1 rfl (Nat.le_of_ble_eq_true rfl) dX9_note_67 ⟨Nat.le_of_ble_eq_true rfl, Nat.le_of_ble_eq_true rfl⟩) (adr_app rfl (adr_app aW_adr rfl)) (asc2 _ _ _) (ww' := mO g o ab be lm ra ta ti fa um ua hh ++ (aW g (o 1) 3 (upd rf 0 (rf 0 + 1)) ++ (aW g (o 2) 45 r ++ (aW g (o 5) 94 tl ++ [])))) (asc2 _ _ _) hP hD hS (fun H locs hP hD hS => ?_)
        exact ret_rwi hx hb hr hlk (by simp only [c1, c2, c3, if_true, if_false, eq_self, Bool.false_eq_true, Bool.and_true, Bool.true_and, Bool.and_false, Bool.false_and]) (kP_eq (by simp only [c1, c2, c3, if_true, if_false, eq_self, Bool.false_eq_true, Bool.and_true, Bool.true_and, Bool.and_false, Bool.false_and]) hP) hS dX9_note_70
      · skip
        have c3 := b2i_1 c3
        refine lv_iload hx hb dX9_note_31 (lv_at hl 4 rfl) ?_
        refine lv_iconst (v := 0) hx hb dX9_note_33 rfl ?_
        refine lv_bipush (v := 9) hx hb dX9_note_34 rfl ?_
        refine ro_i (run_S (As := [.int (c), .int (0), .int (9)]) (rest := []) hC.1 ckX9_in (kX9_in l c 0 9) (gw_in m_1038 rfl) (fb_nil _) (fun _ _ _ => trivial) ⟨rfl, rfl, Nat.le_of_ble_eq_true rfl, Nat.le_of_ble_eq_true rfl⟩ rfl hl.1 rfl (Nat.le_of_ble_eq_true rfl) dX9_note_36 ⟨Nat.le_of_ble_eq_true rfl, Nat.le_of_ble_eq_true rfl⟩) ?_
        refine lv_if_eq (tgt := 64) hx hb dX9_note_39 (by decide) (fun c4 => ?_) (fun c4 => ?_)
        · skip
          have c4 := b2i_0 c4
          refine lv_aload_n hx hb dX9_note_64 rfl (lv_at hl 0 rfl) ?_
          refine lv_bipush (v := -2) hx hb dX9_note_65 rfl ?_
          refine rw_i (run_V (As := [.int (-2)]) (rest := []) hC.1 ckX9_bad (kX9_bad l g o ab be lm ra ta ti fa um ua hh rf (-2)) (gw_in m_1041 rfl) (fb_rw _ _ _) (va_recv hK.1 (kP_app.mp hP).1 (q0 := 0) rfl rfl) (fun U hU hW => ⟨by rw [hU]; exact (kP_app.mpr ⟨(kP_app.mp hP).1, (kP_app.mpr ⟨(kP_app.mp (kP_app.mp hP).2).1, kP_nil⟩)⟩), kK_warm hW hK, vD_sub (sbA _ (sbA _ (sb0 _))) hD⟩) ⟨rfl, rfl, Nat.le_of_ble_eq_true rfl, Nat.le_of_ble_eq_true rfl⟩ rfl hl.1 rfl (Nat.le_of_ble_eq_true rfl) dX9_note_67 ⟨Nat.le_of_ble_eq_true rfl, Nat.le_of_ble_eq_true rfl⟩) (adr_app rfl (adr_app aW_adr rfl)) (asc2 _ _ _) (ww' := mO g o ab be lm ra ta ti fa um ua hh ++ (aW g (o 1) 3 (upd rf 0 (rf 0 + 1)) ++ (aW g (o 2) 45 r ++ (aW g (o 5) 94 tl ++ [])))) (asc2 _ _ _) hP hD hS (fun H locs hP hD hS => ?_)
          exact ret_rwi hx hb hr hlk (by simp only [c1, c2, c3, c4, if_true, if_false, eq_self, Bool.false_eq_true, Bool.and_true, Bool.true_and, Bool.and_false, Bool.false_and]) (kP_eq (by simp only [c1, c2, c3, c4, if_true, if_false, eq_self, Bool.false_eq_true, Bool.and_true, Bool.true_and, Bool.and_false, Bool.false_and]) hP) hS dX9_note_70
        · skip
          have c4 := b2i_1 c4
          refine lv_iload hx hb dX9_note_42 (lv_at hl 5 rfl) ?_
          refine lv_iconst (v := 0) hx hb dX9_note_44 rfl ?_
          refine lv_bipush (v := 44) hx hb dX9_note_45 rfl ?_
          refine ro_i (run_S (As := [.int (f), .int (0), .int (44)]) (rest := []) hC.1 ckX9_in (kX9_in l f 0 44) (gw_in m_1038 rfl) (fb_nil _) (fun _ _ _ => trivial) ⟨rfl, rfl, Nat.le_of_ble_eq_true rfl, Nat.le_of_ble_eq_true rfl⟩ rfl hl.1 rfl (Nat.le_of_ble_eq_true rfl) dX9_note_47 ⟨Nat.le_of_ble_eq_true rfl, Nat.le_of_ble_eq_true rfl⟩) ?_
          refine lv_if_eq (tgt := 64) hx hb dX9_note_50 (by decide) (fun c5 => ?_) (fun c5 => ?_)
          · skip
            have c5 := b2i_0 c5
            refine lv_aload_n hx hb dX9_note_64 rfl (lv_at hl 0 rfl) ?_
            refine lv_bipush (v := -2) hx hb dX9_note_65 rfl ?_
            refine rw_i (run_V (As := [.int (-2)]) (rest := []) hC.1 ckX9_bad (kX9_bad l g o ab be lm ra ta ti fa um ua hh rf (-2)) (gw_in m_1041 rfl) (fb_rw _ _ _) (va_recv hK.1 (kP_app.mp hP).1 (q0 := 0) rfl rfl) (fun U hU hW => ⟨by rw [hU]; exact (kP_app.mpr ⟨(kP_app.mp hP).1, (kP_app.mpr ⟨(kP_app.mp (kP_app.mp hP).2).1, kP_nil⟩)⟩), kK_warm hW hK, vD_sub (sbA _ (sbA _ (sb0 _))) hD⟩) ⟨rfl, rfl, Nat.le_of_ble_eq_true rfl, Nat.le_of_ble_eq_true rfl⟩ rfl hl.1 rfl (Nat.le_of_ble_eq_true rfl) dX9_note_67 ⟨Nat.le_of_ble_eq_true rfl, Nat.le_of_ble_eq_true rfl⟩) (adr_app rfl (adr_app aW_adr rfl)) (asc2 _ _ _) (ww' := mO g o ab be lm ra ta ti fa um ua hh ++ (aW g (o 1) 3 (upd rf 0 (rf 0 + 1)) ++ (aW g (o 2) 45 r ++ (aW g (o 5) 94 tl ++ [])))) (asc2 _ _ _) hP hD hS (fun H locs hP hD hS => ?_)
            exact ret_rwi hx hb hr hlk (by simp only [c1, c2, c3, c4, c5, if_true, if_false, eq_self, Bool.false_eq_true, Bool.and_true, Bool.true_and, Bool.and_false, Bool.false_and]) (kP_eq (by simp only [c1, c2, c3, c4, c5, if_true, if_false, eq_self, Bool.false_eq_true, Bool.and_true, Bool.true_and, Bool.and_false, Bool.false_and]) hP) hS dX9_note_70
          · skip
            have c5 := b2i_1 c5
            refine lv_iload hx hb dX9_note_53 (lv_at hl 6 rfl) ?_
            refine lv_iconst (v := 0) hx hb dX9_note_55 rfl ?_
            refine lv_bipush (v := 60) hx hb dX9_note_56 rfl ?_
            refine ro_i (run_S (As := [.int (x), .int (0), .int (60)]) (rest := []) hC.1 ckX9_in (kX9_in l x 0 60) (gw_in m_1038 rfl) (fb_nil _) (fun _ _ _ => trivial) ⟨rfl, rfl, Nat.le_of_ble_eq_true rfl, Nat.le_of_ble_eq_true rfl⟩ rfl hl.1 rfl (Nat.le_of_ble_eq_true rfl) dX9_note_58 ⟨Nat.le_of_ble_eq_true rfl, Nat.le_of_ble_eq_true rfl⟩) ?_
            refine lv_if_ne (tgt := 71) hx hb dX9_note_61 (by decide) (fun c6 => ?_) (fun c6 => ?_)
            · skip
              have c6 := b2i_1 c6
              refine lv_aload_n hx hb dX9_note_71 rfl (lv_at hl 0 rfl) ?_
              refine kget hC.1 hK (kP_app.mp hP).1 0 rfl rfl in_9 6 (by decide) (gw_in m_966 rfl) rfl dX9_note_72 ?_
              refine lv_bipush (v := 26) hx hb dX9_note_75 rfl ?_
              refine kald (v := nI S) hC.1 hK (kP_app.mp (kP_app.mp (kP_app.mp (kP_app.mp hP).2).2).2).1 0 rfl (show vp_in (nI 26) 94 from vp_in_nI (by omega) (by omega)) ((congrArg tl (show cl 26 = 26 from by decide)).trans hS0) dX9_note_77 ?_
              refine lv_bipush (v := 6) hx hb dX9_note_78 rfl ?_
              refine lv_icmp_ne (tgt := 88) hx hb dX9_note_80 (by decide) (fun c7 => ?_) (fun c7 => ?_)
              · skip
                have c7 : ¬ S = 6 := fun e => c7 (by rw [e]; rfl)
                refine lv_bipush (v := 27) hx hb dX9_note_88 rfl ?_
                refine lv_bipush (v := 6) hx hb dX9_note_90 rfl ?_
                refine lv_aload_n hx hb dX9_note_92 rfl (lv_at hl 0 rfl) ?_
                refine kget hC.1 hK (kP_app.mp hP).1 0 rfl rfl in_9 6 (by decide) (gw_in m_966 rfl) rfl dX9_note_93 ?_
                refine lv_bipush (v := 26) hx hb dX9_note_96 rfl ?_
                refine kald (v := nI S) hC.1 hK (kP_app.mp (kP_app.mp (kP_app.mp (kP_app.mp hP).2).2).2).1 0 rfl (show vp_in (nI 26) 94 from vp_in_nI (by omega) (by omega)) ((congrArg tl (show cl 26 = 26 from by decide)).trans hS0) dX9_note_98 ?_
                refine lv_imul hx hb dX9_note_99 ?_
                refine top_i (x := 6 * (nI S)) (y := nI (6 * S)) (show nI 6 * nI S = _ from pk_mul 6 S) ?_
                refine lv_iadd hx hb dX9_note_100 ?_
                refine top_i (x := 27 + (nI (6 * S))) (y := nI (27 + 6 * S)) (show nI 27 + nI (6 * S) = _ from nI_add 27 (6 * S)) ?_
                refine lv_istore (lv' := [(7, .int (nI (27 + 6 * S))), (0, .ref (o 0)), (1, .int (i)), (2, .int (h)), (3, .int (t)), (4, .int (c)), (5, .int (f)), (6, .int (x))]) hx hb dX9_note_101 hl (by decide) rfl (fun ls hl => ?_)
                refine lv_aload_n hx hb dX9_note_103 rfl (lv_at hl 1 rfl) ?_
                refine kget hC.1 hK (kP_app.mp hP).1 0 rfl rfl in_9 6 (by decide) (gw_in m_966 rfl) rfl dX9_note_104 ?_
                refine lv_iload hx hb dX9_note_107 (lv_at hl 0 rfl) ?_
                refine lv_iload_n hx hb dX9_note_109 rfl (lv_at hl 2 rfl) ?_
                have hP : kP g (aW g (o 5) 94 tl ++ (mO g o ab be lm ra ta ti fa um ua hh ++ (aW g (o 1) 3 rf ++ (aW g (o 2) 45 r ++ [])))) _ := kP_perm (((pmA _ (pmA _ (pm_swap _ _ _))).trans (pmA _ (pm_swap _ _ _))).trans (pm_swap _ _ _)) hP
                have hD : va_D _ (aW g (o 5) 94 tl ++ (mO g o ab be lm ra ta ti fa um ua hh ++ (aW g (o 1) 3 rf ++ (aW g (o 2) 45 r ++ [])))) := vD_perm (((pmA _ (pmA _ (pm_swap _ _ _))).trans (pmA _ (pm_swap _ _ _))).trans (pm_swap _ _ _)) hD
                refine kast (B' := aW g (o 5) 94 (upd tl (27 + 6 * S) i)) hC.1 hK hP hD hS 0 rfl (vp_in_nI (by omega) (by omega)) (fun _ h => by rw [cl_nI (by omega)] at h; exact h) aW_adr dX9_note_110 (fun H locs hP hD hS => ?_)
                refine lv_aload_n hx hb dX9_note_111 rfl (lv_at hl 1 rfl) ?_
                refine kget hC.1 hK (kP_app.mp (kP_app.mp hP).2).1 0 rfl rfl in_9 6 (by decide) (gw_in m_966 rfl) rfl dX9_note_112 ?_
                refine lv_iload hx hb dX9_note_115 (lv_at hl 0 rfl) ?_
                refine lv_iconst (v := 1) hx hb dX9_note_117 rfl ?_
                refine lv_iadd hx hb dX9_note_118 ?_
                refine top_i (x := (nI (27 + 6 * S)) + 1) (y := nI (27 + 6 * S + 1)) (nI_add _ 1) ?_
                refine lv_iload_n hx hb dX9_note_119 rfl (lv_at hl 3 rfl) ?_
                refine kast (B' := aW g (o 5) 94 (upd (upd tl (27 + 6 * S) i) (27 + 6 * S + 1) h)) hC.1 hK hP hD hS 0 rfl (vp_in_nI (by omega) (by omega)) (fun _ h => by rw [cl_nI (by omega)] at h; exact h) aW_adr dX9_note_120 (fun H locs hP hD hS => ?_)
                refine lv_aload_n hx hb dX9_note_121 rfl (lv_at hl 1 rfl) ?_
                refine kget hC.1 hK (kP_app.mp (kP_app.mp hP).2).1 0 rfl rfl in_9 6 (by decide) (gw_in m_966 rfl) rfl dX9_note_122 ?_
                refine lv_iload hx hb dX9_note_125 (lv_at hl 0 rfl) ?_
                refine lv_iconst (v := 2) hx hb dX9_note_127 rfl ?_
                refine lv_iadd hx hb dX9_note_128 ?_
                refine top_i (x := (nI (27 + 6 * S)) + 2) (y := nI (27 + 6 * S + 2)) (nI_add _ 2) ?_
                refine lv_iload_n hx hb dX9_note_129 rfl (lv_at hl 4 rfl) ?_
                refine kast (B' := aW g (o 5) 94 (upd (upd (upd tl (27 + 6 * S) i) (27 + 6 * S + 1) h) (27 + 6 * S + 2) t)) hC.1 hK hP hD hS 0 rfl (vp_in_nI (by omega) (by omega)) (fun _ h => by rw [cl_nI (by omega)] at h; exact h) aW_adr dX9_note_130 (fun H locs hP hD hS => ?_)
                refine lv_aload_n hx hb dX9_note_131 rfl (lv_at hl 1 rfl) ?_
                refine kget hC.1 hK (kP_app.mp (kP_app.mp hP).2).1 0 rfl rfl in_9 6 (by decide) (gw_in m_966 rfl) rfl dX9_note_132 ?_
                refine lv_iload hx hb dX9_note_135 (lv_at hl 0 rfl) ?_
                refine lv_iconst (v := 3) hx hb dX9_note_137 rfl ?_
                refine lv_iadd hx hb dX9_note_138 ?_
                refine top_i (x := (nI (27 + 6 * S)) + 3) (y := nI (27 + 6 * S + 3)) (nI_add _ 3) ?_
                refine lv_iload hx hb dX9_note_139 (lv_at hl 5 rfl) ?_
                refine kast (B' := aW g (o 5) 94 (upd (upd (upd (upd tl (27 + 6 * S) i) (27 + 6 * S + 1) h) (27 + 6 * S + 2) t) (27 + 6 * S + 3) c)) hC.1 hK hP hD hS 0 rfl (vp_in_nI (by omega) (by omega)) (fun _ h => by rw [cl_nI (by omega)] at h; exact h) aW_adr dX9_note_141 (fun H locs hP hD hS => ?_)
                refine lv_aload_n hx hb dX9_note_142 rfl (lv_at hl 1 rfl) ?_
                refine kget hC.1 hK (kP_app.mp (kP_app.mp hP).2).1 0 rfl rfl in_9 6 (by decide) (gw_in m_966 rfl) rfl dX9_note_143 ?_
                refine lv_iload hx hb dX9_note_146 (lv_at hl 0 rfl) ?_
                refine lv_iconst (v := 4) hx hb dX9_note_148 rfl ?_
                refine lv_iadd hx hb dX9_note_149 ?_
                refine top_i (x := (nI (27 + 6 * S)) + 4) (y := nI (27 + 6 * S + 4)) (nI_add _ 4) ?_
                refine lv_iload hx hb dX9_note_150 (lv_at hl 6 rfl) ?_
                refine kast (B' := aW g (o 5) 94 (upd (upd (upd (upd (upd tl (27 + 6 * S) i) (27 + 6 * S + 1) h) (27 + 6 * S + 2) t) (27 + 6 * S + 3) c) (27 + 6 * S + 4) f)) hC.1 hK hP hD hS 0 rfl (vp_in_nI (by omega) (by omega)) (fun _ h => by rw [cl_nI (by omega)] at h; exact h) aW_adr dX9_note_152 (fun H locs hP hD hS => ?_)
                refine lv_aload_n hx hb dX9_note_153 rfl (lv_at hl 1 rfl) ?_
                refine kget hC.1 hK (kP_app.mp (kP_app.mp hP).2).1 0 rfl rfl in_9 6 (by decide) (gw_in m_966 rfl) rfl dX9_note_154 ?_
                refine lv_iload hx hb dX9_note_157 (lv_at hl 0 rfl) ?_
                refine lv_iconst (v := 5) hx hb dX9_note_159 rfl ?_
                refine lv_iadd hx hb dX9_note_160 ?_
                refine top_i (x := (nI (27 + 6 * S)) + 5) (y := nI (27 + 6 * S + 5)) (nI_add _ 5) ?_
                refine lv_iload hx hb dX9_note_161 (lv_at hl 7 rfl) ?_
                refine kast (B' := aW g (o 5) 94 (upd (upd (upd (upd (upd (upd tl (27 + 6 * S) i) (27 + 6 * S + 1) h) (27 + 6 * S + 2) t) (27 + 6 * S + 3) c) (27 + 6 * S + 4) f) (27 + 6 * S + 5) x)) hC.1 hK hP hD hS 0 rfl (vp_in_nI (by omega) (by omega)) (fun _ h => by rw [cl_nI (by omega)] at h; exact h) aW_adr dX9_note_163 (fun H locs hP hD hS => ?_)
                refine lv_aload_n hx hb dX9_note_164 rfl (lv_at hl 1 rfl) ?_
                refine kget hC.1 hK (kP_app.mp (kP_app.mp hP).2).1 0 rfl rfl in_9 6 (by decide) (gw_in m_966 rfl) rfl dX9_note_165 ?_
                refine lv_bipush (v := 26) hx hb dX9_note_168 rfl ?_
                refine lv_dup2_11 hx hb dX9_note_170 rfl rfl ?_
                refine kald (v := nI S) hC.1 hK (kP_app.mp hP).1 0 rfl (show vp_in (nI 26) 94 from vp_in_nI (by omega) (by omega)) (by rw [show cl 26 = 26 from by decide, upd_ne (by omega), upd_ne (by omega), upd_ne (by omega), upd_ne (by omega), upd_ne (by omega), upd_ne (by omega), hS0]) dX9_note_171 ?_
                refine lv_iconst (v := 1) hx hb dX9_note_172 rfl ?_
                refine lv_iadd hx hb dX9_note_173 ?_
                refine top_i (x := (nI S) + 1) (y := nI (S + 1)) (nI_1 S) ?_
                refine kast (B' := aW g (o 5) 94 (upd (upd (upd (upd (upd (upd (upd tl (27 + 6 * S) i) (27 + 6 * S + 1) h) (27 + 6 * S + 2) t) (27 + 6 * S + 3) c) (27 + 6 * S + 4) f) (27 + 6 * S + 5) x) 26 (nI (S + 1)))) hC.1 hK hP hD hS 0 rfl (show vp_in (nI 26) 94 from vp_in_nI (by omega) (by omega)) (fun _ h => by rw [(show cl 26 = 26 from by decide)] at h; exact h) aW_adr dX9_note_174 (fun H locs hP hD hS => ?_)
                refine lv_aload_n hx hb dX9_note_175 rfl (lv_at hl 1 rfl) ?_
                refine kget hC.1 hK (kP_app.mp (kP_app.mp hP).2).1 0 rfl rfl in_9 6 (by decide) (gw_in m_966 rfl) rfl dX9_note_176 ?_
                refine lv_bipush (v := 26) hx hb dX9_note_179 rfl ?_
                refine kald (v := nI (S + 1)) hC.1 hK (kP_app.mp hP).1 0 rfl (show vp_in (nI 26) 94 from vp_in_nI (by omega) (by omega)) (by rw [show cl 26 = 26 from by decide, upd_eq]) dX9_note_181 ?_
                have hP : kP g (mO g o ab be lm ra ta ti fa um ua hh ++ (aW g (o 1) 3 rf ++ (aW g (o 2) 45 r ++ (aW g (o 5) 94 (upd (upd (upd (upd (upd (upd (upd tl (27 + 6 * S) i) (27 + 6 * S + 1) h) (27 + 6 * S + 2) t) (27 + 6 * S + 3) c) (27 + 6 * S + 4) f) (27 + 6 * S + 5) x) 26 (nI (S + 1))) ++ [])))) _ := kP_perm (((pm_swap _ _ _).trans (pmA _ (pm_swap _ _ _))).trans (pmA _ (pmA _ (pm_swap _ _ _)))) hP
                have hD : va_D _ (mO g o ab be lm ra ta ti fa um ua hh ++ (aW g (o 1) 3 rf ++ (aW g (o 2) 45 r ++ (aW g (o 5) 94 (upd (upd (upd (upd (upd (upd (upd tl (27 + 6 * S) i) (27 + 6 * S + 1) h) (27 + 6 * S + 2) t) (27 + 6 * S + 3) c) (27 + 6 * S + 4) f) (27 + 6 * S + 5) x) 26 (nI (S + 1))) ++ [])))) := vD_perm (((pm_swap _ _ _).trans (pmA _ (pm_swap _ _ _))).trans (pmA _ (pmA _ (pm_swap _ _ _)))) hD
                exact ret_rwi hx hb hr hlk (by simp only [c1, c2, c3, c4, c5, c6, c7, if_true, if_false, eq_self, Bool.false_eq_true, Bool.and_true, Bool.true_and, Bool.and_false, Bool.false_and]) (kP_eq (by simp only [c1, c2, c3, c4, c5, c6, c7, if_true, if_false, eq_self, Bool.false_eq_true, Bool.and_true, Bool.true_and, Bool.and_false, Bool.false_and]) hP) hS dX9_note_182
              · skip
                have c7 : S = 6 := by rw [show (6 : Int32) = nI 6 from rfl, nI_eq (by omega) (by omega)] at c7; exact c7
                refine lv_aload_n hx hb dX9_note_83 rfl (lv_at hl 0 rfl) ?_
                refine rw_i (run_V (As := []) (rest := []) hC.1 ckX9_full (kX9_full l g o ab be lm ra ta ti fa um ua hh rf) (gw_in m_1064 rfl) (fb_rw _ _ _) (va_recv hK.1 (kP_app.mp hP).1 (q0 := 0) rfl rfl) (fun U hU hW => ⟨by rw [hU]; exact (kP_app.mpr ⟨(kP_app.mp hP).1, (kP_app.mpr ⟨(kP_app.mp (kP_app.mp hP).2).1, kP_nil⟩)⟩), kK_warm hW hK, vD_sub (sbA _ (sbA _ (sb0 _))) hD⟩) ⟨rfl, rfl, Nat.le_of_ble_eq_true rfl, Nat.le_of_ble_eq_true rfl⟩ rfl hl.1 rfl (Nat.le_of_ble_eq_true rfl) dX9_note_84 ⟨Nat.le_of_ble_eq_true rfl, Nat.le_of_ble_eq_true rfl⟩) (adr_app rfl (adr_app aW_adr rfl)) (asc2 _ _ _) (ww' := mO g o ab be lm ra ta ti fa um ua hh ++ (aW g (o 1) 3 (upd rf 2 (rf 2 + 1)) ++ (aW g (o 2) 45 r ++ (aW g (o 5) 94 tl ++ [])))) (asc2 _ _ _) hP hD hS (fun H locs hP hD hS => ?_)
                exact ret_rwi hx hb hr hlk (by simp only [c1, c2, c3, c4, c5, c6, c7, if_true, if_false, eq_self, Bool.false_eq_true, Bool.and_true, Bool.true_and, Bool.and_false, Bool.false_and]) (kP_eq (by simp only [c1, c2, c3, c4, c5, c6, c7, if_true, if_false, eq_self, Bool.false_eq_true, Bool.and_true, Bool.true_and, Bool.and_false, Bool.false_and]) hP) hS dX9_note_87
            · skip
              have c6 := b2i_0 c6
              refine lv_aload_n hx hb dX9_note_64 rfl (lv_at hl 0 rfl) ?_
              refine lv_bipush (v := -2) hx hb dX9_note_65 rfl ?_
              refine rw_i (run_V (As := [.int (-2)]) (rest := []) hC.1 ckX9_bad (kX9_bad l g o ab be lm ra ta ti fa um ua hh rf (-2)) (gw_in m_1041 rfl) (fb_rw _ _ _) (va_recv hK.1 (kP_app.mp hP).1 (q0 := 0) rfl rfl) (fun U hU hW => ⟨by rw [hU]; exact (kP_app.mpr ⟨(kP_app.mp hP).1, (kP_app.mpr ⟨(kP_app.mp (kP_app.mp hP).2).1, kP_nil⟩)⟩), kK_warm hW hK, vD_sub (sbA _ (sbA _ (sb0 _))) hD⟩) ⟨rfl, rfl, Nat.le_of_ble_eq_true rfl, Nat.le_of_ble_eq_true rfl⟩ rfl hl.1 rfl (Nat.le_of_ble_eq_true rfl) dX9_note_67 ⟨Nat.le_of_ble_eq_true rfl, Nat.le_of_ble_eq_true rfl⟩) (adr_app rfl (adr_app aW_adr rfl)) (asc2 _ _ _) (ww' := mO g o ab be lm ra ta ti fa um ua hh ++ (aW g (o 1) 3 (upd rf 0 (rf 0 + 1)) ++ (aW g (o 2) 45 r ++ (aW g (o 5) 94 tl ++ [])))) (asc2 _ _ _) hP hD hS (fun H locs hP hD hS => ?_)
              exact ret_rwi hx hb hr hlk (by simp only [c1, c2, c3, c4, c5, c6, if_true, if_false, eq_self, Bool.false_eq_true, Bool.and_true, Bool.true_and, Bool.and_false, Bool.false_and]) (kP_eq (by simp only [c1, c2, c3, c4, c5, c6, if_true, if_false, eq_self, Bool.false_eq_true, Bool.and_true, Bool.true_and, Bool.and_false, Bool.false_and]) hP) hS dX9_note_70
set_option maxHeartbeats 4000000 in
set_option maxRecDepth 100000 in
theorem kX9_mark (l : Launch) (g : gG) (o : Nat → Nat) (ab be : Int64) (lm ra ta : Nat) (ti fa : Int32) (um ua : Nat) (hh : Int64) (rf : Nat → Int32) (r tl : Nat → Int32) (S : Nat) (p a w t x : Int32) (hw : Wf r) (hS0 : tl 63 = nI S) (hS5 : S ≤ 6) : Met l yX9_mark (.code yX9_mark cX9_mark 7 (some .int) :: gw) (rmN 1) (va_Pc [.ref (o 0), .int (p), .int (a), .int (w), .int (t), .int (x)] (rwPre g (mO g o ab be lm ra ta ti fa um ua hh ++ (aW g (o 1) 3 rf ++ (aW g (o 2) 45 r ++ (aW g (o 5) 94 tl ++ [])))))) (rwQi g (mO g o ab be lm ra ta ti fa um ua hh ++ (aW g (o 1) 3 rf ++ (aW g (o 2) 45 r ++ (aW g (o 5) 94 tl ++ [])))) (mO g o ab be lm ra ta ti fa um ua hh ++ (aW g (o 1) 3 (if (yPl r p && wth a 1 9 && wth w 1 9 && wth t 0 99 && wth x 0 60) = true then (if S = 6 then upd rf 2 (rf 2 + 1) else rf) else upd rf 0 (rf 0 + 1)) ++ (aW g (o 2) 45 r ++ (aW g (o 5) 94 (if (yPl r p && wth a 1 9 && wth w 1 9 && wth t 0 99 && wth x 0 60) = true then (if S = 6 then tl else upd (upd (upd (upd (upd (upd tl (64 + 5 * S) p) (64 + 5 * S + 1) a) (64 + 5 * S + 2) w) (64 + 5 * S + 3) t) (64 + 5 * S + 4) x) 63 (nI (S + 1))) else tl) ++ [])))) (if (yPl r p && wth a 1 9 && wth w 1 9 && wth t 0 99 && wth x 0 60) = true then (if S = 6 then -4 else nI (S + 1)) else -2)) 0 0 (dm (mO g o ab be lm ra ta ti fa um ua hh ++ (aW g (o 1) 3 rf ++ (aW g (o 2) 45 r ++ (aW g (o 5) 94 tl ++ []))))) := by
  refine met_start (by decide) (Nat.le_of_ble_eq_true rfl) ?_
  intro pp ee ss mm bl mt cd hC hpre ls hl
  obtain ⟨⟨hx, hb, hml, hown, hts⟩, hr, hlk, hnm⟩ := id hC
  have hl : lv_has ls 7 [(0, .ref (o 0)), (1, .int (p)), (2, .int (a)), (3, .int (w)), (4, .int (t)), (5, .int (x))] := hl
  obtain ⟨hP, hK, hD⟩ := hpre
  have hS : va_S (dm (mO g o ab be lm ra ta ti fa um ua hh ++ (aW g (o 1) 3 rf ++ (aW g (o 2) 45 r ++ (aW g (o 5) 94 tl ++ []))))) ss.heap ss.heap [] := va_S.rf
  have hD := vD_self hD
  refine lv_iload_n hx hb dX9_mark_0 rfl (lv_at hl 1 rfl) ?_
  refine lv_iconst (v := 0) hx hb dX9_mark_1 rfl ?_
  refine lv_aload_n hx hb dX9_mark_2 rfl (lv_at hl 0 rfl) ?_
  refine kget hC.1 hK (kP_app.mp hP).1 0 rfl rfl in_9 3 (by decide) (gw_in m_963 rfl) rfl dX9_mark_3 ?_
  refine lv_iconst (v := 1) hx hb dX9_mark_6 rfl ?_
  refine kald (v := r 1) hC.1 hK (kP_app.mp (kP_app.mp (kP_app.mp hP).2).2).1 0 rfl (show vp_in (nI 1) 45 from vp_in_nI (by omega) (by omega)) (congrArg r (show cl 1 = 1 from by decide)) dX9_mark_7 ?_
  refine lv_iconst (v := 1) hx hb dX9_mark_8 rfl ?_
  refine lv_isub hx hb dX9_mark_9 ?_
  refine ro_i (run_S (As := [.int (p), .int (0), .int ((r 1) - 1)]) (rest := []) hC.1 ckX9_in (kX9_in l p 0 ((r 1) - 1)) (gw_in m_1038 rfl) (fb_nil _) (fun _ _ _ => trivial) ⟨rfl, rfl, Nat.le_of_ble_eq_true rfl, Nat.le_of_ble_eq_true rfl⟩ rfl hl.1 rfl (Nat.le_of_ble_eq_true rfl) dX9_mark_10 ⟨Nat.le_of_ble_eq_true rfl, Nat.le_of_ble_eq_true rfl⟩) ?_
  refine top_i (x := b2i (wth p 0 ((r 1) - 1))) (y := b2i (yPl r p)) (by rw [pl_w hw]) ?_
  refine lv_if_eq (tgt := 58) hx hb dX9_mark_13 (by decide) (fun c1 => ?_) (fun c1 => ?_)
  · skip
    have c1 := b2i_0 c1
    refine lv_aload_n hx hb dX9_mark_58 rfl (lv_at hl 0 rfl) ?_
    refine lv_bipush (v := -2) hx hb dX9_mark_59 rfl ?_
    refine rw_i (run_V (As := [.int (-2)]) (rest := []) hC.1 ckX9_bad (kX9_bad l g o ab be lm ra ta ti fa um ua hh rf (-2)) (gw_in m_1041 rfl) (fb_rw _ _ _) (va_recv hK.1 (kP_app.mp hP).1 (q0 := 0) rfl rfl) (fun U hU hW => ⟨by rw [hU]; exact (kP_app.mpr ⟨(kP_app.mp hP).1, (kP_app.mpr ⟨(kP_app.mp (kP_app.mp hP).2).1, kP_nil⟩)⟩), kK_warm hW hK, vD_sub (sbA _ (sbA _ (sb0 _))) hD⟩) ⟨rfl, rfl, Nat.le_of_ble_eq_true rfl, Nat.le_of_ble_eq_true rfl⟩ rfl hl.1 rfl (Nat.le_of_ble_eq_true rfl) dX9_mark_61 ⟨Nat.le_of_ble_eq_true rfl, Nat.le_of_ble_eq_true rfl⟩) (adr_app rfl (adr_app aW_adr rfl)) (asc2 _ _ _) (ww' := mO g o ab be lm ra ta ti fa um ua hh ++ (aW g (o 1) 3 (upd rf 0 (rf 0 + 1)) ++ (aW g (o 2) 45 r ++ (aW g (o 5) 94 tl ++ [])))) (asc2 _ _ _) hP hD hS (fun H locs hP hD hS => ?_)
    exact ret_rwi hx hb hr hlk (by simp only [c1, if_true, if_false, eq_self, Bool.false_eq_true, Bool.and_true, Bool.true_and, Bool.and_false, Bool.false_and]) (kP_eq (by simp only [c1, if_true, if_false, eq_self, Bool.false_eq_true, Bool.and_true, Bool.true_and, Bool.and_false, Bool.false_and]) hP) hS dX9_mark_64
  · skip
    have c1 := b2i_1 c1
    refine lv_iload_n hx hb dX9_mark_16 rfl (lv_at hl 2 rfl) ?_
    refine lv_iconst (v := 1) hx hb dX9_mark_17 rfl ?_
    refine lv_bipush (v := 9) hx hb dX9_mark_18 rfl ?_
    refine ro_i (run_S (As := [.int (a), .int (1), .int (9)]) (rest := []) hC.1 ckX9_in (kX9_in l a 1 9) (gw_in m_1038 rfl) (fb_nil _) (fun _ _ _ => trivial) ⟨rfl, rfl, Nat.le_of_ble_eq_true rfl, Nat.le_of_ble_eq_true rfl⟩ rfl hl.1 rfl (Nat.le_of_ble_eq_true rfl) dX9_mark_20 ⟨Nat.le_of_ble_eq_true rfl, Nat.le_of_ble_eq_true rfl⟩) ?_
    refine lv_if_eq (tgt := 58) hx hb dX9_mark_23 (by decide) (fun c2 => ?_) (fun c2 => ?_)
    · skip
      have c2 := b2i_0 c2
      refine lv_aload_n hx hb dX9_mark_58 rfl (lv_at hl 0 rfl) ?_
      refine lv_bipush (v := -2) hx hb dX9_mark_59 rfl ?_
      refine rw_i (run_V (As := [.int (-2)]) (rest := []) hC.1 ckX9_bad (kX9_bad l g o ab be lm ra ta ti fa um ua hh rf (-2)) (gw_in m_1041 rfl) (fb_rw _ _ _) (va_recv hK.1 (kP_app.mp hP).1 (q0 := 0) rfl rfl) (fun U hU hW => ⟨by rw [hU]; exact (kP_app.mpr ⟨(kP_app.mp hP).1, (kP_app.mpr ⟨(kP_app.mp (kP_app.mp hP).2).1, kP_nil⟩)⟩), kK_warm hW hK, vD_sub (sbA _ (sbA _ (sb0 _))) hD⟩) ⟨rfl, rfl, Nat.le_of_ble_eq_true rfl, Nat.le_of_ble_eq_true rfl⟩ rfl hl.1 rfl (Nat.le_of_ble_eq_true rfl) dX9_mark_61 ⟨Nat.le_of_ble_eq_true rfl, Nat.le_of_ble_eq_true rfl⟩) (adr_app rfl (adr_app aW_adr rfl)) (asc2 _ _ _) (ww' := mO g o ab be lm ra ta ti fa um ua hh ++ (aW g (o 1) 3 (upd rf 0 (rf 0 + 1)) ++ (aW g (o 2) 45 r ++ (aW g (o 5) 94 tl ++ [])))) (asc2 _ _ _) hP hD hS (fun H locs hP hD hS => ?_)
      exact ret_rwi hx hb hr hlk (by simp only [c1, c2, if_true, if_false, eq_self, Bool.false_eq_true, Bool.and_true, Bool.true_and, Bool.and_false, Bool.false_and]) (kP_eq (by simp only [c1, c2, if_true, if_false, eq_self, Bool.false_eq_true, Bool.and_true, Bool.true_and, Bool.and_false, Bool.false_and]) hP) hS dX9_mark_64
    · skip
      have c2 := b2i_1 c2
      refine lv_iload_n hx hb dX9_mark_26 rfl (lv_at hl 3 rfl) ?_
      refine lv_iconst (v := 1) hx hb dX9_mark_27 rfl ?_
      refine lv_bipush (v := 9) hx hb dX9_mark_28 rfl ?_
      refine ro_i (run_S (As := [.int (w), .int (1), .int (9)]) (rest := []) hC.1 ckX9_in (kX9_in l w 1 9) (gw_in m_1038 rfl) (fb_nil _) (fun _ _ _ => trivial) ⟨rfl, rfl, Nat.le_of_ble_eq_true rfl, Nat.le_of_ble_eq_true rfl⟩ rfl hl.1 rfl (Nat.le_of_ble_eq_true rfl) dX9_mark_30 ⟨Nat.le_of_ble_eq_true rfl, Nat.le_of_ble_eq_true rfl⟩) ?_
      refine lv_if_eq (tgt := 58) hx hb dX9_mark_33 (by decide) (fun c3 => ?_) (fun c3 => ?_)
      · skip
        have c3 := b2i_0 c3
        refine lv_aload_n hx hb dX9_mark_58 rfl (lv_at hl 0 rfl) ?_
        refine lv_bipush (v := -2) hx hb dX9_mark_59 rfl ?_
        refine rw_i (run_V (As := [.int (-2)]) (rest := []) hC.1 ckX9_bad (kX9_bad l g o ab be lm ra ta ti fa um ua hh rf (-2)) (gw_in m_1041 rfl) (fb_rw _ _ _) (va_recv hK.1 (kP_app.mp hP).1 (q0 := 0) rfl rfl) (fun U hU hW => ⟨by rw [hU]; exact (kP_app.mpr ⟨(kP_app.mp hP).1, (kP_app.mpr ⟨(kP_app.mp (kP_app.mp hP).2).1, kP_nil⟩)⟩), kK_warm hW hK, vD_sub (sbA _ (sbA _ (sb0 _))) hD⟩) ⟨rfl, rfl, Nat.le_of_ble_eq_true rfl, Nat.le_of_ble_eq_true rfl⟩ rfl hl.1 rfl (Nat.le_of_ble_eq_true rfl) dX9_mark_61 ⟨Nat.le_of_ble_eq_true rfl, Nat.le_of_ble_eq_true rfl⟩) (adr_app rfl (adr_app aW_adr rfl)) (asc2 _ _ _) (ww' := mO g o ab be lm ra ta ti fa um ua hh ++ (aW g (o 1) 3 (upd rf 0 (rf 0 + 1)) ++ (aW g (o 2) 45 r ++ (aW g (o 5) 94 tl ++ [])))) (asc2 _ _ _) hP hD hS (fun H locs hP hD hS => ?_)
        exact ret_rwi hx hb hr hlk (by simp only [c1, c2, c3, if_true, if_false, eq_self, Bool.false_eq_true, Bool.and_true, Bool.true_and, Bool.and_false, Bool.false_and]) (kP_eq (by simp only [c1, c2, c3, if_true, if_false, eq_self, Bool.false_eq_true, Bool.and_true, Bool.true_and, Bool.and_false, Bool.false_and]) hP) hS dX9_mark_64
      · skip
        have c3 := b2i_1 c3
        refine lv_iload hx hb dX9_mark_36 (lv_at hl 4 rfl) ?_
        refine lv_iconst (v := 0) hx hb dX9_mark_38 rfl ?_
        refine lv_bipush (v := 99) hx hb dX9_mark_39 rfl ?_
        refine ro_i (run_S (As := [.int (t), .int (0), .int (99)]) (rest := []) hC.1 ckX9_in (kX9_in l t 0 99) (gw_in m_1038 rfl) (fb_nil _) (fun _ _ _ => trivial) ⟨rfl, rfl, Nat.le_of_ble_eq_true rfl, Nat.le_of_ble_eq_true rfl⟩ rfl hl.1 rfl (Nat.le_of_ble_eq_true rfl) dX9_mark_41 ⟨Nat.le_of_ble_eq_true rfl, Nat.le_of_ble_eq_true rfl⟩) ?_
        refine lv_if_eq (tgt := 58) hx hb dX9_mark_44 (by decide) (fun c4 => ?_) (fun c4 => ?_)
        · skip
          have c4 := b2i_0 c4
          refine lv_aload_n hx hb dX9_mark_58 rfl (lv_at hl 0 rfl) ?_
          refine lv_bipush (v := -2) hx hb dX9_mark_59 rfl ?_
          refine rw_i (run_V (As := [.int (-2)]) (rest := []) hC.1 ckX9_bad (kX9_bad l g o ab be lm ra ta ti fa um ua hh rf (-2)) (gw_in m_1041 rfl) (fb_rw _ _ _) (va_recv hK.1 (kP_app.mp hP).1 (q0 := 0) rfl rfl) (fun U hU hW => ⟨by rw [hU]; exact (kP_app.mpr ⟨(kP_app.mp hP).1, (kP_app.mpr ⟨(kP_app.mp (kP_app.mp hP).2).1, kP_nil⟩)⟩), kK_warm hW hK, vD_sub (sbA _ (sbA _ (sb0 _))) hD⟩) ⟨rfl, rfl, Nat.le_of_ble_eq_true rfl, Nat.le_of_ble_eq_true rfl⟩ rfl hl.1 rfl (Nat.le_of_ble_eq_true rfl) dX9_mark_61 ⟨Nat.le_of_ble_eq_true rfl, Nat.le_of_ble_eq_true rfl⟩) (adr_app rfl (adr_app aW_adr rfl)) (asc2 _ _ _) (ww' := mO g o ab be lm ra ta ti fa um ua hh ++ (aW g (o 1) 3 (upd rf 0 (rf 0 + 1)) ++ (aW g (o 2) 45 r ++ (aW g (o 5) 94 tl ++ [])))) (asc2 _ _ _) hP hD hS (fun H locs hP hD hS => ?_)
          exact ret_rwi hx hb hr hlk (by simp only [c1, c2, c3, c4, if_true, if_false, eq_self, Bool.false_eq_true, Bool.and_true, Bool.true_and, Bool.and_false, Bool.false_and]) (kP_eq (by simp only [c1, c2, c3, c4, if_true, if_false, eq_self, Bool.false_eq_true, Bool.and_true, Bool.true_and, Bool.and_false, Bool.false_and]) hP) hS dX9_mark_64
        · skip
          have c4 := b2i_1 c4
          refine lv_iload hx hb dX9_mark_47 (lv_at hl 5 rfl) ?_
          refine lv_iconst (v := 0) hx hb dX9_mark_49 rfl ?_
          refine lv_bipush (v := 60) hx hb dX9_mark_50 rfl ?_
          refine ro_i (run_S (As := [.int (x), .int (0), .int (60)]) (rest := []) hC.1 ckX9_in (kX9_in l x 0 60) (gw_in m_1038 rfl) (fb_nil _) (fun _ _ _ => trivial) ⟨rfl, rfl, Nat.le_of_ble_eq_true rfl, Nat.le_of_ble_eq_true rfl⟩ rfl hl.1 rfl (Nat.le_of_ble_eq_true rfl) dX9_mark_52 ⟨Nat.le_of_ble_eq_true rfl, Nat.le_of_ble_eq_true rfl⟩) ?_
          refine lv_if_ne (tgt := 65) hx hb dX9_mark_55 (by decide) (fun c5 => ?_) (fun c5 => ?_)
          · skip
            have c5 := b2i_1 c5
            refine lv_aload_n hx hb dX9_mark_65 rfl (lv_at hl 0 rfl) ?_
            refine kget hC.1 hK (kP_app.mp hP).1 0 rfl rfl in_9 6 (by decide) (gw_in m_966 rfl) rfl dX9_mark_66 ?_
            refine lv_bipush (v := 63) hx hb dX9_mark_69 rfl ?_
            refine kald (v := nI S) hC.1 hK (kP_app.mp (kP_app.mp (kP_app.mp (kP_app.mp hP).2).2).2).1 0 rfl (show vp_in (nI 63) 94 from vp_in_nI (by omega) (by omega)) ((congrArg tl (show cl 63 = 63 from by decide)).trans hS0) dX9_mark_71 ?_
            refine lv_bipush (v := 6) hx hb dX9_mark_72 rfl ?_
            refine lv_icmp_ne (tgt := 82) hx hb dX9_mark_74 (by decide) (fun c6 => ?_) (fun c6 => ?_)
            · skip
              have c6 : ¬ S = 6 := fun e => c6 (by rw [e]; rfl)
              refine lv_bipush (v := 64) hx hb dX9_mark_82 rfl ?_
              refine lv_iconst (v := 5) hx hb dX9_mark_84 rfl ?_
              refine lv_aload_n hx hb dX9_mark_85 rfl (lv_at hl 0 rfl) ?_
              refine kget hC.1 hK (kP_app.mp hP).1 0 rfl rfl in_9 6 (by decide) (gw_in m_966 rfl) rfl dX9_mark_86 ?_
              refine lv_bipush (v := 63) hx hb dX9_mark_89 rfl ?_
              refine kald (v := nI S) hC.1 hK (kP_app.mp (kP_app.mp (kP_app.mp (kP_app.mp hP).2).2).2).1 0 rfl (show vp_in (nI 63) 94 from vp_in_nI (by omega) (by omega)) ((congrArg tl (show cl 63 = 63 from by decide)).trans hS0) dX9_mark_91 ?_
              refine lv_imul hx hb dX9_mark_92 ?_
              refine top_i (x := 5 * (nI S)) (y := nI (5 * S)) (show nI 5 * nI S = _ from pk_mul 5 S) ?_
              refine lv_iadd hx hb dX9_mark_93 ?_
              refine top_i (x := 64 + (nI (5 * S))) (y := nI (64 + 5 * S)) (show nI 64 + nI (5 * S) = _ from nI_add 64 (5 * S)) ?_
              refine lv_istore (lv' := [(6, .int (nI (64 + 5 * S))), (0, .ref (o 0)), (1, .int (p)), (2, .int (a)), (3, .int (w)), (4, .int (t)), (5, .int (x))]) hx hb dX9_mark_94 hl (by decide) rfl (fun ls hl => ?_)
              refine lv_aload_n hx hb dX9_mark_96 rfl (lv_at hl 1 rfl) ?_
              refine kget hC.1 hK (kP_app.mp hP).1 0 rfl rfl in_9 6 (by decide) (gw_in m_966 rfl) rfl dX9_mark_97 ?_
              refine lv_iload hx hb dX9_mark_100 (lv_at hl 0 rfl) ?_
              refine lv_iload_n hx hb dX9_mark_102 rfl (lv_at hl 2 rfl) ?_
              have hP : kP g (aW g (o 5) 94 tl ++ (mO g o ab be lm ra ta ti fa um ua hh ++ (aW g (o 1) 3 rf ++ (aW g (o 2) 45 r ++ [])))) _ := kP_perm (((pmA _ (pmA _ (pm_swap _ _ _))).trans (pmA _ (pm_swap _ _ _))).trans (pm_swap _ _ _)) hP
              have hD : va_D _ (aW g (o 5) 94 tl ++ (mO g o ab be lm ra ta ti fa um ua hh ++ (aW g (o 1) 3 rf ++ (aW g (o 2) 45 r ++ [])))) := vD_perm (((pmA _ (pmA _ (pm_swap _ _ _))).trans (pmA _ (pm_swap _ _ _))).trans (pm_swap _ _ _)) hD
              refine kast (B' := aW g (o 5) 94 (upd tl (64 + 5 * S) p)) hC.1 hK hP hD hS 0 rfl (vp_in_nI (by omega) (by omega)) (fun _ h => by rw [cl_nI (by omega)] at h; exact h) aW_adr dX9_mark_103 (fun H locs hP hD hS => ?_)
              refine lv_aload_n hx hb dX9_mark_104 rfl (lv_at hl 1 rfl) ?_
              refine kget hC.1 hK (kP_app.mp (kP_app.mp hP).2).1 0 rfl rfl in_9 6 (by decide) (gw_in m_966 rfl) rfl dX9_mark_105 ?_
              refine lv_iload hx hb dX9_mark_108 (lv_at hl 0 rfl) ?_
              refine lv_iconst (v := 1) hx hb dX9_mark_110 rfl ?_
              refine lv_iadd hx hb dX9_mark_111 ?_
              refine top_i (x := (nI (64 + 5 * S)) + 1) (y := nI (64 + 5 * S + 1)) (nI_add _ 1) ?_
              refine lv_iload_n hx hb dX9_mark_112 rfl (lv_at hl 3 rfl) ?_
              refine kast (B' := aW g (o 5) 94 (upd (upd tl (64 + 5 * S) p) (64 + 5 * S + 1) a)) hC.1 hK hP hD hS 0 rfl (vp_in_nI (by omega) (by omega)) (fun _ h => by rw [cl_nI (by omega)] at h; exact h) aW_adr dX9_mark_113 (fun H locs hP hD hS => ?_)
              refine lv_aload_n hx hb dX9_mark_114 rfl (lv_at hl 1 rfl) ?_
              refine kget hC.1 hK (kP_app.mp (kP_app.mp hP).2).1 0 rfl rfl in_9 6 (by decide) (gw_in m_966 rfl) rfl dX9_mark_115 ?_
              refine lv_iload hx hb dX9_mark_118 (lv_at hl 0 rfl) ?_
              refine lv_iconst (v := 2) hx hb dX9_mark_120 rfl ?_
              refine lv_iadd hx hb dX9_mark_121 ?_
              refine top_i (x := (nI (64 + 5 * S)) + 2) (y := nI (64 + 5 * S + 2)) (nI_add _ 2) ?_
              refine lv_iload_n hx hb dX9_mark_122 rfl (lv_at hl 4 rfl) ?_
              refine kast (B' := aW g (o 5) 94 (upd (upd (upd tl (64 + 5 * S) p) (64 + 5 * S + 1) a) (64 + 5 * S + 2) w)) hC.1 hK hP hD hS 0 rfl (vp_in_nI (by omega) (by omega)) (fun _ h => by rw [cl_nI (by omega)] at h; exact h) aW_adr dX9_mark_123 (fun H locs hP hD hS => ?_)
              refine lv_aload_n hx hb dX9_mark_124 rfl (lv_at hl 1 rfl) ?_
              refine kget hC.1 hK (kP_app.mp (kP_app.mp hP).2).1 0 rfl rfl in_9 6 (by decide) (gw_in m_966 rfl) rfl dX9_mark_125 ?_
              refine lv_iload hx hb dX9_mark_128 (lv_at hl 0 rfl) ?_
              refine lv_iconst (v := 3) hx hb dX9_mark_130 rfl ?_
              refine lv_iadd hx hb dX9_mark_131 ?_
              refine top_i (x := (nI (64 + 5 * S)) + 3) (y := nI (64 + 5 * S + 3)) (nI_add _ 3) ?_
              refine lv_iload hx hb dX9_mark_132 (lv_at hl 5 rfl) ?_
              refine kast (B' := aW g (o 5) 94 (upd (upd (upd (upd tl (64 + 5 * S) p) (64 + 5 * S + 1) a) (64 + 5 * S + 2) w) (64 + 5 * S + 3) t)) hC.1 hK hP hD hS 0 rfl (vp_in_nI (by omega) (by omega)) (fun _ h => by rw [cl_nI (by omega)] at h; exact h) aW_adr dX9_mark_134 (fun H locs hP hD hS => ?_)
              refine lv_aload_n hx hb dX9_mark_135 rfl (lv_at hl 1 rfl) ?_
              refine kget hC.1 hK (kP_app.mp (kP_app.mp hP).2).1 0 rfl rfl in_9 6 (by decide) (gw_in m_966 rfl) rfl dX9_mark_136 ?_
              refine lv_iload hx hb dX9_mark_139 (lv_at hl 0 rfl) ?_
              refine lv_iconst (v := 4) hx hb dX9_mark_141 rfl ?_
              refine lv_iadd hx hb dX9_mark_142 ?_
              refine top_i (x := (nI (64 + 5 * S)) + 4) (y := nI (64 + 5 * S + 4)) (nI_add _ 4) ?_
              refine lv_iload hx hb dX9_mark_143 (lv_at hl 6 rfl) ?_
              refine kast (B' := aW g (o 5) 94 (upd (upd (upd (upd (upd tl (64 + 5 * S) p) (64 + 5 * S + 1) a) (64 + 5 * S + 2) w) (64 + 5 * S + 3) t) (64 + 5 * S + 4) x)) hC.1 hK hP hD hS 0 rfl (vp_in_nI (by omega) (by omega)) (fun _ h => by rw [cl_nI (by omega)] at h; exact h) aW_adr dX9_mark_145 (fun H locs hP hD hS => ?_)
              refine lv_aload_n hx hb dX9_mark_146 rfl (lv_at hl 1 rfl) ?_
              refine kget hC.1 hK (kP_app.mp (kP_app.mp hP).2).1 0 rfl rfl in_9 6 (by decide) (gw_in m_966 rfl) rfl dX9_mark_147 ?_
              refine lv_bipush (v := 63) hx hb dX9_mark_150 rfl ?_
              refine lv_dup2_11 hx hb dX9_mark_152 rfl rfl ?_
              refine kald (v := nI S) hC.1 hK (kP_app.mp hP).1 0 rfl (show vp_in (nI 63) 94 from vp_in_nI (by omega) (by omega)) (by rw [show cl 63 = 63 from by decide, upd_ne (by omega), upd_ne (by omega), upd_ne (by omega), upd_ne (by omega), upd_ne (by omega), hS0]) dX9_mark_153 ?_
              refine lv_iconst (v := 1) hx hb dX9_mark_154 rfl ?_
              refine lv_iadd hx hb dX9_mark_155 ?_
              refine top_i (x := (nI S) + 1) (y := nI (S + 1)) (nI_1 S) ?_
              refine kast (B' := aW g (o 5) 94 (upd (upd (upd (upd (upd (upd tl (64 + 5 * S) p) (64 + 5 * S + 1) a) (64 + 5 * S + 2) w) (64 + 5 * S + 3) t) (64 + 5 * S + 4) x) 63 (nI (S + 1)))) hC.1 hK hP hD hS 0 rfl (show vp_in (nI 63) 94 from vp_in_nI (by omega) (by omega)) (fun _ h => by rw [(show cl 63 = 63 from by decide)] at h; exact h) aW_adr dX9_mark_156 (fun H locs hP hD hS => ?_)
              refine lv_aload_n hx hb dX9_mark_157 rfl (lv_at hl 1 rfl) ?_
              refine kget hC.1 hK (kP_app.mp (kP_app.mp hP).2).1 0 rfl rfl in_9 6 (by decide) (gw_in m_966 rfl) rfl dX9_mark_158 ?_
              refine lv_bipush (v := 63) hx hb dX9_mark_161 rfl ?_
              refine kald (v := nI (S + 1)) hC.1 hK (kP_app.mp hP).1 0 rfl (show vp_in (nI 63) 94 from vp_in_nI (by omega) (by omega)) (by rw [show cl 63 = 63 from by decide, upd_eq]) dX9_mark_163 ?_
              have hP : kP g (mO g o ab be lm ra ta ti fa um ua hh ++ (aW g (o 1) 3 rf ++ (aW g (o 2) 45 r ++ (aW g (o 5) 94 (upd (upd (upd (upd (upd (upd tl (64 + 5 * S) p) (64 + 5 * S + 1) a) (64 + 5 * S + 2) w) (64 + 5 * S + 3) t) (64 + 5 * S + 4) x) 63 (nI (S + 1))) ++ [])))) _ := kP_perm (((pm_swap _ _ _).trans (pmA _ (pm_swap _ _ _))).trans (pmA _ (pmA _ (pm_swap _ _ _)))) hP
              have hD : va_D _ (mO g o ab be lm ra ta ti fa um ua hh ++ (aW g (o 1) 3 rf ++ (aW g (o 2) 45 r ++ (aW g (o 5) 94 (upd (upd (upd (upd (upd (upd tl (64 + 5 * S) p) (64 + 5 * S + 1) a) (64 + 5 * S + 2) w) (64 + 5 * S + 3) t) (64 + 5 * S + 4) x) 63 (nI (S + 1))) ++ [])))) := vD_perm (((pm_swap _ _ _).trans (pmA _ (pm_swap _ _ _))).trans (pmA _ (pmA _ (pm_swap _ _ _)))) hD
              exact ret_rwi hx hb hr hlk (by simp only [c1, c2, c3, c4, c5, c6, if_true, if_false, eq_self, Bool.false_eq_true, Bool.and_true, Bool.true_and, Bool.and_false, Bool.false_and]) (kP_eq (by simp only [c1, c2, c3, c4, c5, c6, if_true, if_false, eq_self, Bool.false_eq_true, Bool.and_true, Bool.true_and, Bool.and_false, Bool.false_and]) hP) hS dX9_mark_164
            · skip
              have c6 : S = 6 := by rw [show (6 : Int32) = nI 6 from rfl, nI_eq (by omega) (by omega)] at c6; exact c6
              refine lv_aload_n hx hb dX9_mark_77 rfl (lv_at hl 0 rfl) ?_
              refine rw_i (run_V (As := []) (rest := []) hC.1 ckX9_full (kX9_full l g o ab be lm ra ta ti fa um ua hh rf) (gw_in m_1064 rfl) (fb_rw _ _ _) (va_recv hK.1 (kP_app.mp hP).1 (q0 := 0) rfl rfl) (fun U hU hW => ⟨by rw [hU]; exact (kP_app.mpr ⟨(kP_app.mp hP).1, (kP_app.mpr ⟨(kP_app.mp (kP_app.mp hP).2).1, kP_nil⟩)⟩), kK_warm hW hK, vD_sub (sbA _ (sbA _ (sb0 _))) hD⟩) ⟨rfl, rfl, Nat.le_of_ble_eq_true rfl, Nat.le_of_ble_eq_true rfl⟩ rfl hl.1 rfl (Nat.le_of_ble_eq_true rfl) dX9_mark_78 ⟨Nat.le_of_ble_eq_true rfl, Nat.le_of_ble_eq_true rfl⟩) (adr_app rfl (adr_app aW_adr rfl)) (asc2 _ _ _) (ww' := mO g o ab be lm ra ta ti fa um ua hh ++ (aW g (o 1) 3 (upd rf 2 (rf 2 + 1)) ++ (aW g (o 2) 45 r ++ (aW g (o 5) 94 tl ++ [])))) (asc2 _ _ _) hP hD hS (fun H locs hP hD hS => ?_)
              exact ret_rwi hx hb hr hlk (by simp only [c1, c2, c3, c4, c5, c6, if_true, if_false, eq_self, Bool.false_eq_true, Bool.and_true, Bool.true_and, Bool.and_false, Bool.false_and]) (kP_eq (by simp only [c1, c2, c3, c4, c5, c6, if_true, if_false, eq_self, Bool.false_eq_true, Bool.and_true, Bool.true_and, Bool.and_false, Bool.false_and]) hP) hS dX9_mark_81
          · skip
            have c5 := b2i_0 c5
            refine lv_aload_n hx hb dX9_mark_58 rfl (lv_at hl 0 rfl) ?_
            refine lv_bipush (v := -2) hx hb dX9_mark_59 rfl ?_
            refine rw_i (run_V (As := [.int (-2)]) (rest := []) hC.1 ckX9_bad (kX9_bad l g o ab be lm ra ta ti fa um ua hh rf (-2)) (gw_in m_1041 rfl) (fb_rw _ _ _) (va_recv hK.1 (kP_app.mp hP).1 (q0 := 0) rfl rfl) (fun U hU hW => ⟨by rw [hU]; exact (kP_app.mpr ⟨(kP_app.mp hP).1, (kP_app.mpr ⟨(kP_app.mp (kP_app.mp hP).2).1, kP_nil⟩)⟩), kK_warm hW hK, vD_sub (sbA _ (sbA _ (sb0 _))) hD⟩) ⟨rfl, rfl, Nat.le_of_ble_eq_true rfl, Nat.le_of_ble_eq_true rfl⟩ rfl hl.1 rfl (Nat.le_of_ble_eq_true rfl) dX9_mark_61 ⟨Nat.le_of_ble_eq_true rfl, Nat.le_of_ble_eq_true rfl⟩) (adr_app rfl (adr_app aW_adr rfl)) (asc2 _ _ _) (ww' := mO g o ab be lm ra ta ti fa um ua hh ++ (aW g (o 1) 3 (upd rf 0 (rf 0 + 1)) ++ (aW g (o 2) 45 r ++ (aW g (o 5) 94 tl ++ [])))) (asc2 _ _ _) hP hD hS (fun H locs hP hD hS => ?_)
            exact ret_rwi hx hb hr hlk (by simp only [c1, c2, c3, c4, c5, if_true, if_false, eq_self, Bool.false_eq_true, Bool.and_true, Bool.true_and, Bool.and_false, Bool.false_and]) (kP_eq (by simp only [c1, c2, c3, c4, c5, if_true, if_false, eq_self, Bool.false_eq_true, Bool.and_true, Bool.true_and, Bool.and_false, Bool.false_and]) hP) hS dX9_mark_64
set_option maxHeartbeats 4000000 in
set_option maxRecDepth 100000 in
theorem kX9_forget (l : Launch) (g : gG) (o : Nat → Nat) (ab be : Int64) (lm ra ta : Nat) (ti fa : Int32) (um ua : Nat) (hh : Int64) (rf : Nat → Int32) (tl : Nat → Int32) (w : Int32) : Met l yX9_forget (.code yX9_forget cX9_forget 4 (some .int) :: gw) (rmN 1) (va_Pc [.ref (o 0), .int (w)] (rwPre g (mO g o ab be lm ra ta ti fa um ua hh ++ (aW g (o 1) 3 rf ++ (aW g (o 5) 94 tl ++ []))))) (rwQi g (mO g o ab be lm ra ta ti fa um ua hh ++ (aW g (o 1) 3 rf ++ (aW g (o 5) 94 tl ++ []))) (mO g o ab be lm ra ta ti fa um ua hh ++ (aW g (o 1) 3 (if wth w 0 2 = true then rf else upd rf 0 (rf 0 + 1)) ++ (aW g (o 5) 94 (if wth w 0 2 = true then upd tl (fgK w) 0 else tl) ++ []))) (if wth w 0 2 = true then tl (fgK w) else -2)) 0 0 (dm (mO g o ab be lm ra ta ti fa um ua hh ++ (aW g (o 1) 3 rf ++ (aW g (o 5) 94 tl ++ [])))) := by
  refine met_start (by decide) (Nat.le_of_ble_eq_true rfl) ?_
  intro pp ee ss mm bl mt cd hC hpre ls hl
  obtain ⟨⟨hx, hb, hml, hown, hts⟩, hr, hlk, hnm⟩ := id hC
  have hl : lv_has ls 4 [(0, .ref (o 0)), (1, .int (w))] := hl
  obtain ⟨hP, hK, hD⟩ := hpre
  have hS : va_S (dm (mO g o ab be lm ra ta ti fa um ua hh ++ (aW g (o 1) 3 rf ++ (aW g (o 5) 94 tl ++ [])))) ss.heap ss.heap [] := va_S.rf
  have hD := vD_self hD
  refine lv_iload_n hx hb dX9_forget_0 rfl (lv_at hl 1 rfl) ?_
  refine lv_iconst (v := 0) hx hb dX9_forget_1 rfl ?_
  refine lv_iconst (v := 2) hx hb dX9_forget_2 rfl ?_
  refine ro_i (run_S (As := [.int (w), .int (0), .int (2)]) (rest := []) hC.1 ckX9_in (kX9_in l w 0 2) (gw_in m_1038 rfl) (fb_nil _) (fun _ _ _ => trivial) ⟨rfl, rfl, Nat.le_of_ble_eq_true rfl, Nat.le_of_ble_eq_true rfl⟩ rfl hl.1 rfl (Nat.le_of_ble_eq_true rfl) dX9_forget_3 ⟨Nat.le_of_ble_eq_true rfl, Nat.le_of_ble_eq_true rfl⟩) ?_
  refine lv_if_ne (tgt := 16) hx hb dX9_forget_6 (by decide) (fun c1 => ?_) (fun c1 => ?_)
  · skip
    have c1 := b2i_1 c1
    refine lv_iload_n hx hb dX9_forget_16 rfl (lv_at hl 1 rfl) ?_
    refine lv_if_ne (tgt := 24) hx hb dX9_forget_17 (by decide) (fun c2 => ?_) (fun c2 => ?_)
    · skip
      refine lv_iload_n hx hb dX9_forget_24 rfl (lv_at hl 1 rfl) ?_
      refine lv_iconst (v := 1) hx hb dX9_forget_25 rfl ?_
      refine lv_icmp_ne (tgt := 34) hx hb dX9_forget_26 (by decide) (fun c3 => ?_) (fun c3 => ?_)
      · skip
        refine lv_bipush (v := 63) hx hb dX9_forget_34 rfl ?_
        refine lv_istore_n (lv' := [(2, .int (63)), (0, .ref (o 0)), (1, .int (w))]) hx hb dX9_forget_36 rfl hl (by decide) rfl (fun ls hl => ?_)
        refine lv_aload_n hx hb dX9_forget_37 rfl (lv_at hl 1 rfl) ?_
        refine kget hC.1 hK (kP_app.mp hP).1 0 rfl rfl in_9 6 (by decide) (gw_in m_966 rfl) rfl dX9_forget_38 ?_
        refine lv_iload_n hx hb dX9_forget_41 rfl (lv_at hl 0 rfl) ?_
        refine kald (v := tl 63) hC.1 hK (kP_app.mp (kP_app.mp (kP_app.mp hP).2).2).1 0 rfl (show vp_in (nI 63) 94 from vp_in_nI (by omega) (by omega)) (congrArg tl (show cl 63 = 63 from by decide)) dX9_forget_42 ?_
        refine lv_istore_n (lv' := [(3, .int (tl 63)), (2, .int (63)), (0, .ref (o 0)), (1, .int (w))]) hx hb dX9_forget_43 rfl hl (by decide) rfl (fun ls hl => ?_)
        refine lv_aload_n hx hb dX9_forget_44 rfl (lv_at hl 2 rfl) ?_
        refine kget hC.1 hK (kP_app.mp hP).1 0 rfl rfl in_9 6 (by decide) (gw_in m_966 rfl) rfl dX9_forget_45 ?_
        refine lv_iload_n hx hb dX9_forget_48 rfl (lv_at hl 1 rfl) ?_
        refine lv_iconst (v := 0) hx hb dX9_forget_49 rfl ?_
        have hP : kP g (aW g (o 5) 94 tl ++ (mO g o ab be lm ra ta ti fa um ua hh ++ (aW g (o 1) 3 rf ++ []))) _ := kP_perm ((pmA _ (pm_swap _ _ _)).trans (pm_swap _ _ _)) hP
        have hD : va_D _ (aW g (o 5) 94 tl ++ (mO g o ab be lm ra ta ti fa um ua hh ++ (aW g (o 1) 3 rf ++ []))) := vD_perm ((pmA _ (pm_swap _ _ _)).trans (pm_swap _ _ _)) hD
        refine kast (B' := aW g (o 5) 94 (upd tl 63 0)) hC.1 hK hP hD hS 0 rfl (show vp_in (nI 63) 94 from vp_in_nI (by omega) (by omega)) (fun _ h => by rw [(show cl 63 = 63 from by decide)] at h; exact h) aW_adr dX9_forget_50 (fun H locs hP hD hS => ?_)
        refine lv_iload_n hx hb dX9_forget_51 rfl (lv_at hl 0 rfl) ?_
        have hP : kP g (mO g o ab be lm ra ta ti fa um ua hh ++ (aW g (o 1) 3 rf ++ (aW g (o 5) 94 (upd tl 63 0) ++ []))) _ := kP_perm ((pm_swap _ _ _).trans (pmA _ (pm_swap _ _ _))) hP
        have hD : va_D _ (mO g o ab be lm ra ta ti fa um ua hh ++ (aW g (o 1) 3 rf ++ (aW g (o 5) 94 (upd tl 63 0) ++ []))) := vD_perm ((pm_swap _ _ _).trans (pmA _ (pm_swap _ _ _))) hD
        exact ret_rwi hx hb hr hlk (by rw [if_pos c1]; simp [fgK, c2, c3]) (kP_eq (by rw [if_pos c1, if_pos c1]; simp [fgK, c2, c3]) hP) hS dX9_forget_52
      · skip
        refine lv_bipush (v := 26) hx hb dX9_forget_29 rfl ?_
        refine lv_goto (tgt := 36) hx hb dX9_forget_31 (by decide) ?_
        refine lv_istore_n (lv' := [(2, .int (26)), (0, .ref (o 0)), (1, .int (w))]) hx hb dX9_forget_36 rfl hl (by decide) rfl (fun ls hl => ?_)
        refine lv_aload_n hx hb dX9_forget_37 rfl (lv_at hl 1 rfl) ?_
        refine kget hC.1 hK (kP_app.mp hP).1 0 rfl rfl in_9 6 (by decide) (gw_in m_966 rfl) rfl dX9_forget_38 ?_
        refine lv_iload_n hx hb dX9_forget_41 rfl (lv_at hl 0 rfl) ?_
        refine kald (v := tl 26) hC.1 hK (kP_app.mp (kP_app.mp (kP_app.mp hP).2).2).1 0 rfl (show vp_in (nI 26) 94 from vp_in_nI (by omega) (by omega)) (congrArg tl (show cl 26 = 26 from by decide)) dX9_forget_42 ?_
        refine lv_istore_n (lv' := [(3, .int (tl 26)), (2, .int (26)), (0, .ref (o 0)), (1, .int (w))]) hx hb dX9_forget_43 rfl hl (by decide) rfl (fun ls hl => ?_)
        refine lv_aload_n hx hb dX9_forget_44 rfl (lv_at hl 2 rfl) ?_
        refine kget hC.1 hK (kP_app.mp hP).1 0 rfl rfl in_9 6 (by decide) (gw_in m_966 rfl) rfl dX9_forget_45 ?_
        refine lv_iload_n hx hb dX9_forget_48 rfl (lv_at hl 1 rfl) ?_
        refine lv_iconst (v := 0) hx hb dX9_forget_49 rfl ?_
        have hP : kP g (aW g (o 5) 94 tl ++ (mO g o ab be lm ra ta ti fa um ua hh ++ (aW g (o 1) 3 rf ++ []))) _ := kP_perm ((pmA _ (pm_swap _ _ _)).trans (pm_swap _ _ _)) hP
        have hD : va_D _ (aW g (o 5) 94 tl ++ (mO g o ab be lm ra ta ti fa um ua hh ++ (aW g (o 1) 3 rf ++ []))) := vD_perm ((pmA _ (pm_swap _ _ _)).trans (pm_swap _ _ _)) hD
        refine kast (B' := aW g (o 5) 94 (upd tl 26 0)) hC.1 hK hP hD hS 0 rfl (show vp_in (nI 26) 94 from vp_in_nI (by omega) (by omega)) (fun _ h => by rw [(show cl 26 = 26 from by decide)] at h; exact h) aW_adr dX9_forget_50 (fun H locs hP hD hS => ?_)
        refine lv_iload_n hx hb dX9_forget_51 rfl (lv_at hl 0 rfl) ?_
        have hP : kP g (mO g o ab be lm ra ta ti fa um ua hh ++ (aW g (o 1) 3 rf ++ (aW g (o 5) 94 (upd tl 26 0) ++ []))) _ := kP_perm ((pm_swap _ _ _).trans (pmA _ (pm_swap _ _ _))) hP
        have hD : va_D _ (mO g o ab be lm ra ta ti fa um ua hh ++ (aW g (o 1) 3 rf ++ (aW g (o 5) 94 (upd tl 26 0) ++ []))) := vD_perm ((pm_swap _ _ _).trans (pmA _ (pm_swap _ _ _))) hD
        exact ret_rwi hx hb hr hlk (by rw [if_pos c1]; simp [fgK, c2, c3]) (kP_eq (by rw [if_pos c1, if_pos c1]; simp [fgK, c2, c3]) hP) hS dX9_forget_52
    · skip
      refine lv_iconst (v := 0) hx hb dX9_forget_20 rfl ?_
      refine lv_goto (tgt := 36) hx hb dX9_forget_21 (by decide) ?_
      refine lv_istore_n (lv' := [(2, .int (0)), (0, .ref (o 0)), (1, .int (w))]) hx hb dX9_forget_36 rfl hl (by decide) rfl (fun ls hl => ?_)
      refine lv_aload_n hx hb dX9_forget_37 rfl (lv_at hl 1 rfl) ?_
      refine kget hC.1 hK (kP_app.mp hP).1 0 rfl rfl in_9 6 (by decide) (gw_in m_966 rfl) rfl dX9_forget_38 ?_
      refine lv_iload_n hx hb dX9_forget_41 rfl (lv_at hl 0 rfl) ?_
      refine kald (v := tl 0) hC.1 hK (kP_app.mp (kP_app.mp (kP_app.mp hP).2).2).1 0 rfl (show vp_in (nI 0) 94 from vp_in_nI (by omega) (by omega)) (congrArg tl (show cl 0 = 0 from by decide)) dX9_forget_42 ?_
      refine lv_istore_n (lv' := [(3, .int (tl 0)), (2, .int (0)), (0, .ref (o 0)), (1, .int (w))]) hx hb dX9_forget_43 rfl hl (by decide) rfl (fun ls hl => ?_)
      refine lv_aload_n hx hb dX9_forget_44 rfl (lv_at hl 2 rfl) ?_
      refine kget hC.1 hK (kP_app.mp hP).1 0 rfl rfl in_9 6 (by decide) (gw_in m_966 rfl) rfl dX9_forget_45 ?_
      refine lv_iload_n hx hb dX9_forget_48 rfl (lv_at hl 1 rfl) ?_
      refine lv_iconst (v := 0) hx hb dX9_forget_49 rfl ?_
      have hP : kP g (aW g (o 5) 94 tl ++ (mO g o ab be lm ra ta ti fa um ua hh ++ (aW g (o 1) 3 rf ++ []))) _ := kP_perm ((pmA _ (pm_swap _ _ _)).trans (pm_swap _ _ _)) hP
      have hD : va_D _ (aW g (o 5) 94 tl ++ (mO g o ab be lm ra ta ti fa um ua hh ++ (aW g (o 1) 3 rf ++ []))) := vD_perm ((pmA _ (pm_swap _ _ _)).trans (pm_swap _ _ _)) hD
      refine kast (B' := aW g (o 5) 94 (upd tl 0 0)) hC.1 hK hP hD hS 0 rfl (show vp_in (nI 0) 94 from vp_in_nI (by omega) (by omega)) (fun _ h => by rw [(show cl 0 = 0 from by decide)] at h; exact h) aW_adr dX9_forget_50 (fun H locs hP hD hS => ?_)
      refine lv_iload_n hx hb dX9_forget_51 rfl (lv_at hl 0 rfl) ?_
      have hP : kP g (mO g o ab be lm ra ta ti fa um ua hh ++ (aW g (o 1) 3 rf ++ (aW g (o 5) 94 (upd tl 0 0) ++ []))) _ := kP_perm ((pm_swap _ _ _).trans (pmA _ (pm_swap _ _ _))) hP
      have hD : va_D _ (mO g o ab be lm ra ta ti fa um ua hh ++ (aW g (o 1) 3 rf ++ (aW g (o 5) 94 (upd tl 0 0) ++ []))) := vD_perm ((pm_swap _ _ _).trans (pmA _ (pm_swap _ _ _))) hD
      exact ret_rwi hx hb hr hlk (by rw [if_pos c1]; simp [fgK, c2]) (kP_eq (by rw [if_pos c1, if_pos c1]; simp [fgK, c2]) hP) hS dX9_forget_52
  · skip
    have c1 := b2i_0 c1
    refine lv_aload_n hx hb dX9_forget_9 rfl (lv_at hl 0 rfl) ?_
    refine lv_bipush (v := -2) hx hb dX9_forget_10 rfl ?_
    refine rw_i (run_V (As := [.int (-2)]) (rest := []) hC.1 ckX9_bad (kX9_bad l g o ab be lm ra ta ti fa um ua hh rf (-2)) (gw_in m_1041 rfl) (fb_rw _ _ _) (va_recv hK.1 (kP_app.mp hP).1 (q0 := 0) rfl rfl) (fun U hU hW => ⟨by rw [hU]; exact (kP_app.mpr ⟨(kP_app.mp hP).1, (kP_app.mpr ⟨(kP_app.mp (kP_app.mp hP).2).1, kP_nil⟩)⟩), kK_warm hW hK, vD_sub (sbA _ (sbA _ (sb0 _))) hD⟩) ⟨rfl, rfl, Nat.le_of_ble_eq_true rfl, Nat.le_of_ble_eq_true rfl⟩ rfl hl.1 rfl (Nat.le_of_ble_eq_true rfl) dX9_forget_12 ⟨Nat.le_of_ble_eq_true rfl, Nat.le_of_ble_eq_true rfl⟩) (adr_app rfl (adr_app aW_adr rfl)) (asc2 _ _ _) (ww' := mO g o ab be lm ra ta ti fa um ua hh ++ (aW g (o 1) 3 (upd rf 0 (rf 0 + 1)) ++ (aW g (o 5) 94 tl ++ []))) (asc2 _ _ _) hP hD hS (fun H locs hP hD hS => ?_)
    exact ret_rwi hx hb hr hlk (by simp only [c1, if_true, if_false, eq_self, Bool.false_eq_true, Bool.and_true, Bool.true_and, Bool.and_false, Bool.false_and]) (kP_eq (by simp only [c1, if_true, if_false, eq_self, Bool.false_eq_true, Bool.and_true, Bool.true_and, Bool.and_false, Bool.false_and]) hP) hS dX9_forget_15
