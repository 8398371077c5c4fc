theorem ckX9_seen : ckV yX9_seen cX9_seen 7 (some .int) 5 := ⟨(gw_in m_1278 rfl), (gw_in m_71 rfl), ⟨(gw_in m_1276 rfl), (gw_in m_1277 rfl)⟩, by decide +kernel, by decide +kernel, by decide +kernel⟩
set_option maxHeartbeats 4000000 in
set_option maxRecDepth 100000 in
theorem kX9_seen (l : Launch) (g : gG) (o : Nat → Nat) (ab be : Int64) (lm ra ta : Nat) (ti fa : Int32) (um ua : Nat) (hh : Int64) (rf : Nat → Int32) (r tl : Nat → Int32) (S : Nat) (i t c f x : Int32) (hw : Wf r) (hS0 : tl 0 = nI S) (hS5 : S ≤ 5) : Met l yX9_seen (.code yX9_seen cX9_seen 7 (some .int) :: gw) (rmN 2) (va_Pc [.ref (o 0), .int (i), .int (t), .int (c), .int (f), .int (x)] (rwPre g (mO g o ab be lm ra ta ti fa um ua hh ++ (aW g (o 1) 3 rf ++ (aW g (o 2) 45 r ++ (aW g (o 5) 94 tl ++ [])))))) (rwQi g (mO g o ab be lm ra ta ti fa um ua hh ++ (aW g (o 1) 3 rf ++ (aW g (o 2) 45 r ++ (aW g (o 5) 94 tl ++ [])))) (mO g o ab be lm ra ta ti fa um ua hh ++ (aW g (o 1) 3 (if (yNut r i && wth t 0 99 && wth c 0 9 && wth f 0 44 && wth x 0 60) = true then (if S = 5 then upd rf 2 (rf 2 + 1) else rf) else upd rf 0 (rf 0 + 1)) ++ (aW g (o 2) 45 r ++ (aW g (o 5) 94 (if (yNut r i && wth t 0 99 && wth c 0 9 && wth f 0 44 && wth x 0 60) = true then (if S = 5 then tl else upd (upd (upd (upd (upd (upd tl (1 + 5 * S) i) (1 + 5 * S + 1) t) (1 + 5 * S + 2) c) (1 + 5 * S + 3) f) (1 + 5 * S + 4) x) 0 (nI (S + 1))) else tl) ++ [])))) (if (yNut r i && wth t 0 99 && wth c 0 9 && wth f 0 44 && wth x 0 60) = true then (if S = 5 then -4 else nI (S + 1)) else -2)) 0 0 (dm (mO g o ab be lm ra ta ti fa um ua hh ++ (aW g (o 1) 3 rf ++ (aW g (o 2) 45 r ++ (aW g (o 5) 94 tl ++ []))))) := by
  refine met_start (by decide) (Nat.le_of_ble_eq_true rfl) ?_
  intro pp ee ss mm bl mt cd hC hpre ls hl
  obtain ⟨⟨hx, hb, hml, hown, hts⟩, hr, hlk, hnm⟩ := id hC
  have hl : lv_has ls 7 [(0, .ref (o 0)), (1, .int (i)), (2, .int (t)), (3, .int (c)), (4, .int (f)), (5, .int (x))] := hl
  obtain ⟨hP, hK, hD⟩ := hpre
  have hS : va_S (dm (mO g o ab be lm ra ta ti fa um ua hh ++ (aW g (o 1) 3 rf ++ (aW g (o 2) 45 r ++ (aW g (o 5) 94 tl ++ []))))) ss.heap ss.heap [] := va_S.rf
  have hD := vD_self hD
  refine lv_aload_n hx hb dX9_seen_0 rfl (lv_at hl 0 rfl) ?_
  refine kget hC.1 hK (kP_app.mp hP).1 0 rfl rfl in_9 3 (by decide) (gw_in m_963 rfl) rfl dX9_seen_1 ?_
  refine lv_iload_n hx hb dX9_seen_4 rfl (lv_at hl 1 rfl) ?_
  refine ro_i (run_S (As := [.ref (o 2), .int (i)]) (rest := []) hC.1 ckX9_isNut (kX9_isNut l g (o 2) r i hw) (gw_in m_1139 rfl) (fb_ro _ _ _) (fun U hU hW => ⟨by rw [hU]; exact (kP_app.mp (kP_app.mp (kP_app.mp hP).2).2).1, kK_warm hW hK⟩) ⟨rfl, rfl, Nat.le_of_ble_eq_true rfl, Nat.le_of_ble_eq_true rfl⟩ rfl hl.1 rfl (Nat.le_of_ble_eq_true rfl) dX9_seen_5 ⟨Nat.le_of_ble_eq_true rfl, Nat.le_of_ble_eq_true rfl⟩) ?_
  refine lv_if_eq (tgt := 53) hx hb dX9_seen_8 (by decide) (fun c1 => ?_) (fun c1 => ?_)
  · skip
    have c1 := b2i_0 c1
    refine lv_aload_n hx hb dX9_seen_53 rfl (lv_at hl 0 rfl) ?_
    refine lv_bipush (v := -2) hx hb dX9_seen_54 rfl ?_
    refine rw_i (run_V (As := [.int (-2)]) (rest := []) hC.1 ckX9_bad (kX9_bad l g o ab be lm ra ta ti fa um ua hh rf (-2)) (gw_in m_1041 rfl) (fb_rw _ _ _) (va_recv hK.1 (kP_app.mp hP).1 (q0 := 0) rfl rfl) (fun U hU hW => ⟨by rw [hU]; exact (kP_app.mpr ⟨(kP_app.mp hP).1, (kP_app.mpr ⟨(kP_app.mp (kP_app.mp hP).2).1, kP_nil⟩)⟩), kK_warm hW hK, vD_sub (sbA _ (sbA _ (sb0 _))) hD⟩) ⟨rfl, rfl, Nat.le_of_ble_eq_true rfl, Nat.le_of_ble_eq_true rfl⟩ rfl hl.1 rfl (Nat.le_of_ble_eq_true rfl) dX9_seen_56 ⟨Nat.le_of_ble_eq_true rfl, Nat.le_of_ble_eq_true rfl⟩) (adr_app rfl (adr_app aW_adr rfl)) (asc2 _ _ _) (ww' := mO g o ab be lm ra ta ti fa um ua hh ++ (aW g (o 1) 3 (upd rf 0 (rf 0 + 1)) ++ (aW g (o 2) 45 r ++ (aW g (o 5) 94 tl ++ [])))) (asc2 _ _ _) hP hD hS (fun H locs hP hD hS => ?_)
    exact ret_rwi hx hb hr hlk (by simp only [c1, if_true, if_false, eq_self, Bool.false_eq_true, Bool.and_true, Bool.true_and, Bool.and_false, Bool.false_and]) (kP_eq (by simp only [c1, if_true, if_false, eq_self, Bool.false_eq_true, Bool.and_true, Bool.true_and, Bool.and_false, Bool.false_and]) hP) hS dX9_seen_59
  · skip
    have c1 := b2i_1 c1
    refine lv_iload_n hx hb dX9_seen_11 rfl (lv_at hl 2 rfl) ?_
    refine lv_iconst (v := 0) hx hb dX9_seen_12 rfl ?_
    refine lv_bipush (v := 99) hx hb dX9_seen_13 rfl ?_
    refine ro_i (run_S (As := [.int (t), .int (0), .int (99)]) (rest := []) hC.1 ckX9_in (kX9_in l t 0 99) (gw_in m_1038 rfl) (fb_nil _) (fun _ _ _ => trivial) ⟨rfl, rfl, Nat.le_of_ble_eq_true rfl, Nat.le_of_ble_eq_true rfl⟩ rfl hl.1 rfl (Nat.le_of_ble_eq_true rfl) dX9_seen_15 ⟨Nat.le_of_ble_eq_true rfl, Nat.le_of_ble_eq_true rfl⟩) ?_
    refine lv_if_eq (tgt := 53) hx hb dX9_seen_18 (by decide) (fun c2 => ?_) (fun c2 => ?_)
    · skip
      have c2 := b2i_0 c2
      refine lv_aload_n hx hb dX9_seen_53 rfl (lv_at hl 0 rfl) ?_
      refine lv_bipush (v := -2) hx hb dX9_seen_54 rfl ?_
      refine rw_i (run_V (As := [.int (-2)]) (rest := []) hC.1 ckX9_bad (kX9_bad l g o ab be lm ra ta ti fa um ua hh rf (-2)) (gw_in m_1041 rfl) (fb_rw _ _ _) (va_recv hK.1 (kP_app.mp hP).1 (q0 := 0) rfl rfl) (fun U hU hW => ⟨by rw [hU]; exact (kP_app.mpr ⟨(kP_app.mp hP).1, (kP_app.mpr ⟨(kP_app.mp (kP_app.mp hP).2).1, kP_nil⟩)⟩), kK_warm hW hK, vD_sub (sbA _ (sbA _ (sb0 _))) hD⟩) ⟨rfl, rfl, Nat.le_of_ble_eq_true rfl, Nat.le_of_ble_eq_true rfl⟩ rfl hl.1 rfl (Nat.le_of_ble_eq_true rfl) dX9_seen_56 ⟨Nat.le_of_ble_eq_true rfl, Nat.le_of_ble_eq_true rfl⟩) (adr_app rfl (adr_app aW_adr rfl)) (asc2 _ _ _) (ww' := mO g o ab be lm ra ta ti fa um ua hh ++ (aW g (o 1) 3 (upd rf 0 (rf 0 + 1)) ++ (aW g (o 2) 45 r ++ (aW g (o 5) 94 tl ++ [])))) (asc2 _ _ _) hP hD hS (fun H locs hP hD hS => ?_)
      exact ret_rwi hx hb hr hlk (by simp only [c1, c2, if_true, if_false, eq_self, Bool.false_eq_true, Bool.and_true, Bool.true_and, Bool.and_false, Bool.false_and]) (kP_eq (by simp only [c1, c2, if_true, if_false, eq_self, Bool.false_eq_true, Bool.and_true, Bool.true_and, Bool.and_false, Bool.false_and]) hP) hS dX9_seen_59
    · skip
      have c2 := b2i_1 c2
      refine lv_iload_n hx hb dX9_seen_21 rfl (lv_at hl 3 rfl) ?_
      refine lv_iconst (v := 0) hx hb dX9_seen_22 rfl ?_
      refine lv_bipush (v := 9) hx hb dX9_seen_23 rfl ?_
      refine ro_i (run_S (As := [.int (c), .int (0), .int (9)]) (rest := []) hC.1 ckX9_in (kX9_in l c 0 9) (gw_in m_1038 rfl) (fb_nil _) (fun _ _ _ => trivial) ⟨rfl, rfl, Nat.le_of_ble_eq_true rfl, Nat.le_of_ble_eq_true rfl⟩ rfl hl.1 rfl (Nat.le_of_ble_eq_true rfl) dX9_seen_25 ⟨Nat.le_of_ble_eq_true rfl, Nat.le_of_ble_eq_true rfl⟩) ?_
      refine lv_if_eq (tgt := 53) hx hb dX9_seen_28 (by decide) (fun c3 => ?_) (fun c3 => ?_)
      · skip
        have c3 := b2i_0 c3
        refine lv_aload_n hx hb dX9_seen_53 rfl (lv_at hl 0 rfl) ?_
        refine lv_bipush (v := -2) hx hb dX9_seen_54 rfl ?_
        refine rw_i (run_V (As := [.int (-2)]) (rest := []) hC.1 ckX9_bad (kX9_bad l g o ab be lm ra ta ti fa um ua hh rf (-2)) (gw_in m_1041 rfl) (fb_rw _ _ _) (va_recv hK.1 (kP_app.mp hP).1 (q0 := 0) rfl rfl) (fun U hU hW => ⟨by rw [hU]; exact (kP_app.mpr ⟨(kP_app.mp hP).1, (kP_app.mpr ⟨(kP_app.mp (kP_app.mp hP).2).1, kP_nil⟩)⟩), kK_warm hW hK, vD_sub (sbA _ (sbA _ (sb0 _))) hD⟩) ⟨rfl, rfl, Nat.le_of_ble_eq_true rfl, Nat.le_of_ble_eq_true rfl⟩ rfl hl.1 rfl (Nat.le_of_ble_eq_true rfl) dX9_seen_56 ⟨Nat.le_of_ble_eq_true rfl, Nat.le_of_ble_eq_true rfl⟩) (adr_app rfl (adr_app aW_adr rfl)) (asc2 _ _ _) (ww' := mO g o ab be lm ra ta ti fa um ua hh ++ (aW g (o 1) 3 (upd rf 0 (rf 0 + 1)) ++ (aW g (o 2) 45 r ++ (aW g (o 5) 94 tl ++ [])))) (asc2 _ _ _) hP hD hS (fun H locs hP hD hS => ?_)
        exact ret_rwi hx hb hr hlk (by simp only [c1, c2, c3, if_true, if_false, eq_self, Bool.false_eq_true, Bool.and_true, Bool.true_and, Bool.and_false, Bool.false_and]) (kP_eq (by simp only [c1, c2, c3, if_true, if_false, eq_self, Bool.false_eq_true, Bool.and_true, Bool.true_and, Bool.and_false, Bool.false_and]) hP) hS dX9_seen_59
      · skip
        have c3 := b2i_1 c3
        refine lv_iload hx hb dX9_seen_31 (lv_at hl 4 rfl) ?_
        refine lv_iconst (v := 0) hx hb dX9_seen_33 rfl ?_
        refine lv_bipush (v := 44) hx hb dX9_seen_34 rfl ?_
        refine ro_i (run_S (As := [.int (f), .int (0), .int (44)]) (rest := []) hC.1 ckX9_in (kX9_in l f 0 44) (gw_in m_1038 rfl) (fb_nil _) (fun _ _ _ => trivial) ⟨rfl, rfl, Nat.le_of_ble_eq_true rfl, Nat.le_of_ble_eq_true rfl⟩ rfl hl.1 rfl (Nat.le_of_ble_eq_true rfl) dX9_seen_36 ⟨Nat.le_of_ble_eq_true rfl, Nat.le_of_ble_eq_true rfl⟩) ?_
        refine lv_if_eq (tgt := 53) hx hb dX9_seen_39 (by decide) (fun c4 => ?_) (fun c4 => ?_)
        · skip
          have c4 := b2i_0 c4
          refine lv_aload_n hx hb dX9_seen_53 rfl (lv_at hl 0 rfl) ?_
          refine lv_bipush (v := -2) hx hb dX9_seen_54 rfl ?_
          refine rw_i (run_V (As := [.int (-2)]) (rest := []) hC.1 ckX9_bad (kX9_bad l g o ab be lm ra ta ti fa um ua hh rf (-2)) (gw_in m_1041 rfl) (fb_rw _ _ _) (va_recv hK.1 (kP_app.mp hP).1 (q0 := 0) rfl rfl) (fun U hU hW => ⟨by rw [hU]; exact (kP_app.mpr ⟨(kP_app.mp hP).1, (kP_app.mpr ⟨(kP_app.mp (kP_app.mp hP).2).1, kP_nil⟩)⟩), kK_warm hW hK, vD_sub (sbA _ (sbA _ (sb0 _))) hD⟩) ⟨rfl, rfl, Nat.le_of_ble_eq_true rfl, Nat.le_of_ble_eq_true rfl⟩ rfl hl.1 rfl (Nat.le_of_ble_eq_true rfl) dX9_seen_56 ⟨Nat.le_of_ble_eq_true rfl, Nat.le_of_ble_eq_true rfl⟩) (adr_app rfl (adr_app aW_adr rfl)) (asc2 _ _ _) (ww' := mO g o ab be lm ra ta ti fa um ua hh ++ (aW g (o 1) 3 (upd rf 0 (rf 0 + 1)) ++ (aW g (o 2) 45 r ++ (aW g (o 5) 94 tl ++ [])))) (asc2 _ _ _) hP hD hS (fun H locs hP hD hS => ?_)
          exact ret_rwi hx hb hr hlk (by simp only [c1, c2, c3, c4, if_true, if_false, eq_self, Bool.false_eq_true, Bool.and_true, Bool.true_and, Bool.and_false, Bool.false_and]) (kP_eq (by simp only [c1, c2, c3, c4, if_true, if_false, eq_self, Bool.false_eq_true, Bool.and_true, Bool.true_and, Bool.and_false, Bool.false_and]) hP) hS dX9_seen_59
        · skip
          have c4 := b2i_1 c4
          refine lv_iload hx hb dX9_seen_42 (lv_at hl 5 rfl) ?_
          refine lv_iconst (v := 0) hx hb dX9_seen_44 rfl ?_
          refine lv_bipush (v := 60) hx hb dX9_seen_45 rfl ?_
          refine ro_i (run_S (As := [.int (x), .int (0), .int (60)]) (rest := []) hC.1 ckX9_in (kX9_in l x 0 60) (gw_in m_1038 rfl) (fb_nil _) (fun _ _ _ => trivial) ⟨rfl, rfl, Nat.le_of_ble_eq_true rfl, Nat.le_of_ble_eq_true rfl⟩ rfl hl.1 rfl (Nat.le_of_ble_eq_true rfl) dX9_seen_47 ⟨Nat.le_of_ble_eq_true rfl, Nat.le_of_ble_eq_true rfl⟩) ?_
          refine lv_if_ne (tgt := 60) hx hb dX9_seen_50 (by decide) (fun c5 => ?_) (fun c5 => ?_)
          · skip
            have c5 := b2i_1 c5
            refine lv_aload_n hx hb dX9_seen_60 rfl (lv_at hl 0 rfl) ?_
            refine kget hC.1 hK (kP_app.mp hP).1 0 rfl rfl in_9 6 (by decide) (gw_in m_966 rfl) rfl dX9_seen_61 ?_
            refine lv_iconst (v := 0) hx hb dX9_seen_64 rfl ?_
            refine kald (v := nI S) hC.1 hK (kP_app.mp (kP_app.mp (kP_app.mp (kP_app.mp hP).2).2).2).1 0 rfl (show vp_in (nI 0) 94 from vp_in_nI (by omega) (by omega)) ((congrArg tl (show cl 0 = 0 from by decide)).trans hS0) dX9_seen_65 ?_
            refine lv_iconst (v := 5) hx hb dX9_seen_66 rfl ?_
            refine lv_icmp_ne (tgt := 75) hx hb dX9_seen_67 (by decide) (fun c6 => ?_) (fun c6 => ?_)
            · skip
              have c6 : ¬ S = 5 := fun e => c6 (by rw [e]; rfl)
              refine lv_iconst (v := 1) hx hb dX9_seen_75 rfl ?_
              refine lv_iconst (v := 5) hx hb dX9_seen_76 rfl ?_
              refine lv_aload_n hx hb dX9_seen_77 rfl (lv_at hl 0 rfl) ?_
              refine kget hC.1 hK (kP_app.mp hP).1 0 rfl rfl in_9 6 (by decide) (gw_in m_966 rfl) rfl dX9_seen_78 ?_
              refine lv_iconst (v := 0) hx hb dX9_seen_81 rfl ?_
              refine kald (v := nI S) hC.1 hK (kP_app.mp (kP_app.mp (kP_app.mp (kP_app.mp hP).2).2).2).1 0 rfl (show vp_in (nI 0) 94 from vp_in_nI (by omega) (by omega)) ((congrArg tl (show cl 0 = 0 from by decide)).trans hS0) dX9_seen_82 ?_
              refine lv_imul hx hb dX9_seen_83 ?_
              refine top_i (x := 5 * (nI S)) (y := nI (5 * S)) (show nI 5 * nI S = _ from pk_mul 5 S) ?_
              refine lv_iadd hx hb dX9_seen_84 ?_
              refine top_i (x := 1 + (nI (5 * S))) (y := nI (1 + 5 * S)) (show nI 1 + nI (5 * S) = _ from nI_add 1 (5 * S)) ?_
              refine lv_istore (lv' := [(6, .int (nI (1 + 5 * S))), (0, .ref (o 0)), (1, .int (i)), (2, .int (t)), (3, .int (c)), (4, .int (f)), (5, .int (x))]) hx hb dX9_seen_85 hl (by decide) rfl (fun ls hl => ?_)
              refine lv_aload_n hx hb dX9_seen_87 rfl (lv_at hl 1 rfl) ?_
              refine kget hC.1 hK (kP_app.mp hP).1 0 rfl rfl in_9 6 (by decide) (gw_in m_966 rfl) rfl dX9_seen_88 ?_
              refine lv_iload hx hb dX9_seen_91 (lv_at hl 0 rfl) ?_
              refine lv_iload_n hx hb dX9_seen_93 rfl (lv_at hl 2 rfl) ?_
              have hP : kP g (aW g (o 5) 94 tl ++ (mO g o ab be lm ra ta ti fa um ua hh ++ (aW g (o 1) 3 rf ++ (aW g (o 2) 45 r ++ [])))) _ := kP_perm (((pmA _ (pmA _ (pm_swap _ _ _))).trans (pmA _ (pm_swap _ _ _))).trans (pm_swap _ _ _)) hP
              have hD : va_D _ (aW g (o 5) 94 tl ++ (mO g o ab be lm ra ta ti fa um ua hh ++ (aW g (o 1) 3 rf ++ (aW g (o 2) 45 r ++ [])))) := vD_perm (((pmA _ (pmA _ (pm_swap _ _ _))).trans (pmA _ (pm_swap _ _ _))).trans (pm_swap _ _ _)) hD
              refine kast (B' := aW g (o 5) 94 (upd tl (1 + 5 * S) i)) hC.1 hK hP hD hS 0 rfl (vp_in_nI (by omega) (by omega)) (fun _ h => by rw [cl_nI (by omega)] at h; exact h) aW_adr dX9_seen_94 (fun H locs hP hD hS => ?_)
              refine lv_aload_n hx hb dX9_seen_95 rfl (lv_at hl 1 rfl) ?_
              refine kget hC.1 hK (kP_app.mp (kP_app.mp hP).2).1 0 rfl rfl in_9 6 (by decide) (gw_in m_966 rfl) rfl dX9_seen_96 ?_
              refine lv_iload hx hb dX9_seen_99 (lv_at hl 0 rfl) ?_
              refine lv_iconst (v := 1) hx hb dX9_seen_101 rfl ?_
              refine lv_iadd hx hb dX9_seen_102 ?_
              refine top_i (x := (nI (1 + 5 * S)) + 1) (y := nI (1 + 5 * S + 1)) (nI_add _ 1) ?_
              refine lv_iload_n hx hb dX9_seen_103 rfl (lv_at hl 3 rfl) ?_
              refine kast (B' := aW g (o 5) 94 (upd (upd tl (1 + 5 * S) i) (1 + 5 * S + 1) t)) hC.1 hK hP hD hS 0 rfl (vp_in_nI (by omega) (by omega)) (fun _ h => by rw [cl_nI (by omega)] at h; exact h) aW_adr dX9_seen_104 (fun H locs hP hD hS => ?_)
              refine lv_aload_n hx hb dX9_seen_105 rfl (lv_at hl 1 rfl) ?_
              refine kget hC.1 hK (kP_app.mp (kP_app.mp hP).2).1 0 rfl rfl in_9 6 (by decide) (gw_in m_966 rfl) rfl dX9_seen_106 ?_
              refine lv_iload hx hb dX9_seen_109 (lv_at hl 0 rfl) ?_
              refine lv_iconst (v := 2) hx hb dX9_seen_111 rfl ?_
              refine lv_iadd hx hb dX9_seen_112 ?_
              refine top_i (x := (nI (1 + 5 * S)) + 2) (y := nI (1 + 5 * S + 2)) (nI_add _ 2) ?_
              refine lv_iload_n hx hb dX9_seen_113 rfl (lv_at hl 4 rfl) ?_
              refine kast (B' := aW g (o 5) 94 (upd (upd (upd tl (1 + 5 * S) i) (1 + 5 * S + 1) t) (1 + 5 * S + 2) c)) hC.1 hK hP hD hS 0 rfl (vp_in_nI (by omega) (by omega)) (fun _ h => by rw [cl_nI (by omega)] at h; exact h) aW_adr dX9_seen_114 (fun H locs hP hD hS => ?_)
              refine lv_aload_n hx hb dX9_seen_115 rfl (lv_at hl 1 rfl) ?_
              refine kget hC.1 hK (kP_app.mp (kP_app.mp hP).2).1 0 rfl rfl in_9 6 (by decide) (gw_in m_966 rfl) rfl dX9_seen_116 ?_
              refine lv_iload hx hb dX9_seen_119 (lv_at hl 0 rfl) ?_
              refine lv_iconst (v := 3) hx hb dX9_seen_121 rfl ?_
              refine lv_iadd hx hb dX9_seen_122 ?_
              refine top_i (x := (nI (1 + 5 * S)) + 3) (y := nI (1 + 5 * S + 3)) (nI_add _ 3) ?_
              refine lv_iload hx hb dX9_seen_123 (lv_at hl 5 rfl) ?_
              refine kast (B' := aW g (o 5) 94 (upd (upd (upd (upd tl (1 + 5 * S) i) (1 + 5 * S + 1) t) (1 + 5 * S + 2) c) (1 + 5 * S + 3) f)) hC.1 hK hP hD hS 0 rfl (vp_in_nI (by omega) (by omega)) (fun _ h => by rw [cl_nI (by omega)] at h; exact h) aW_adr dX9_seen_125 (fun H locs hP hD hS => ?_)
              refine lv_aload_n hx hb dX9_seen_126 rfl (lv_at hl 1 rfl) ?_
              refine kget hC.1 hK (kP_app.mp (kP_app.mp hP).2).1 0 rfl rfl in_9 6 (by decide) (gw_in m_966 rfl) rfl dX9_seen_127 ?_
              refine lv_iload hx hb dX9_seen_130 (lv_at hl 0 rfl) ?_
              refine lv_iconst (v := 4) hx hb dX9_seen_132 rfl ?_
              refine lv_iadd hx hb dX9_seen_133 ?_
              refine top_i (x := (nI (1 + 5 * S)) + 4) (y := nI (1 + 5 * S + 4)) (nI_add _ 4) ?_
              refine lv_iload hx hb dX9_seen_134 (lv_at hl 6 rfl) ?_
              refine kast (B' := aW g (o 5) 94 (upd (upd (upd (upd (upd tl (1 + 5 * S) i) (1 + 5 * S + 1) t) (1 + 5 * S + 2) c) (1 + 5 * S + 3) f) (1 + 5 * S + 4) x)) hC.1 hK hP hD hS 0 rfl (vp_in_nI (by omega) (by omega)) (fun _ h => by rw [cl_nI (by omega)] at h; exact h) aW_adr dX9_seen_136 (fun H locs hP hD hS => ?_)
              refine lv_aload_n hx hb dX9_seen_137 rfl (lv_at hl 1 rfl) ?_
              refine kget hC.1 hK (kP_app.mp (kP_app.mp hP).2).1 0 rfl rfl in_9 6 (by decide) (gw_in m_966 rfl) rfl dX9_seen_138 ?_
              refine lv_iconst (v := 0) hx hb dX9_seen_141 rfl ?_
              refine lv_dup2_11 hx hb dX9_seen_142 rfl rfl ?_
              refine kald (v := nI S) hC.1 hK (kP_app.mp hP).1 0 rfl (show vp_in (nI 0) 94 from vp_in_nI (by omega) (by omega)) (by rw [show cl 0 = 0 from by decide, upd_ne (by omega), upd_ne (by omega), upd_ne (by omega), upd_ne (by omega), upd_ne (by omega), hS0]) dX9_seen_143 ?_
              refine lv_iconst (v := 1) hx hb dX9_seen_144 rfl ?_
              refine lv_iadd hx hb dX9_seen_145 ?_
              refine top_i (x := (nI S) + 1) (y := nI (S + 1)) (nI_1 S) ?_
              refine kast (B' := aW g (o 5) 94 (upd (upd (upd (upd (upd (upd tl (1 + 5 * S) i) (1 + 5 * S + 1) t) (1 + 5 * S + 2) c) (1 + 5 * S + 3) f) (1 + 5 * S + 4) x) 0 (nI (S + 1)))) hC.1 hK hP hD hS 0 rfl (show vp_in (nI 0) 94 from vp_in_nI (by omega) (by omega)) (fun _ h => by rw [(show cl 0 = 0 from by decide)] at h; exact h) aW_adr dX9_seen_146 (fun H locs hP hD hS => ?_)
              refine lv_aload_n hx hb dX9_seen_147 rfl (lv_at hl 1 rfl) ?_
              refine kget hC.1 hK (kP_app.mp (kP_app.mp hP).2).1 0 rfl rfl in_9 6 (by decide) (gw_in m_966 rfl) rfl dX9_seen_148 ?_
              refine lv_iconst (v := 0) hx hb dX9_seen_151 rfl ?_
              refine kald (v := nI (S + 1)) hC.1 hK (kP_app.mp hP).1 0 rfl (show vp_in (nI 0) 94 from vp_in_nI (by omega) (by omega)) (by rw [show cl 0 = 0 from by decide, upd_eq]) dX9_seen_152 ?_
              have hP : kP g (mO g o ab be lm ra ta ti fa um ua hh ++ (aW g (o 1) 3 rf ++ (aW g (o 2) 45 r ++ (aW g (o 5) 94 (upd (upd (upd (upd (upd (upd tl (1 + 5 * S) i) (1 + 5 * S + 1) t) (1 + 5 * S + 2) c) (1 + 5 * S + 3) f) (1 + 5 * S + 4) x) 0 (nI (S + 1))) ++ [])))) _ := kP_perm (((pm_swap _ _ _).trans (pmA _ (pm_swap _ _ _))).trans (pmA _ (pmA _ (pm_swap _ _ _)))) hP
              have hD : va_D _ (mO g o ab be lm ra ta ti fa um ua hh ++ (aW g (o 1) 3 rf ++ (aW g (o 2) 45 r ++ (aW g (o 5) 94 (upd (upd (upd (upd (upd (upd tl (1 + 5 * S) i) (1 + 5 * S + 1) t) (1 + 5 * S + 2) c) (1 + 5 * S + 3) f) (1 + 5 * S + 4) x) 0 (nI (S + 1))) ++ [])))) := vD_perm (((pm_swap _ _ _).trans (pmA _ (pm_swap _ _ _))).trans (pmA _ (pmA _ (pm_swap _ _ _)))) hD
              exact ret_rwi hx hb hr hlk (by simp only [c1, c2, c3, c4, c5, c6, if_true, if_false, eq_self, Bool.false_eq_true, Bool.and_true, Bool.true_and, Bool.and_false, Bool.false_and]) (kP_eq (by simp only [c1, c2, c3, c4, c5, c6, if_true, if_false, eq_self, Bool.false_eq_true, Bool.and_true, Bool.true_and, Bool.and_false, Bool.false_and]) hP) hS dX9_seen_153
            · skip
              have c6 : S = 5 := by rw [show (5 : Int32) = nI 5 from rfl, nI_eq (by omega) (by omega)] at c6; exact c6
              refine lv_aload_n hx hb dX9_seen_70 rfl (lv_at hl 0 rfl) ?_
              refine rw_i (run_V (As := []) (rest := []) hC.1 ckX9_full (kX9_full l g o ab be lm ra ta ti fa um ua hh rf) (gw_in m_1064 rfl) (fb_rw _ _ _) (va_recv hK.1 (kP_app.mp hP).1 (q0 := 0) rfl rfl) (fun U hU hW => ⟨by rw [hU]; exact (kP_app.mpr ⟨(kP_app.mp hP).1, (kP_app.mpr ⟨(kP_app.mp (kP_app.mp hP).2).1, kP_nil⟩)⟩), kK_warm hW hK, vD_sub (sbA _ (sbA _ (sb0 _))) hD⟩) ⟨rfl, rfl, Nat.le_of_ble_eq_true rfl, Nat.le_of_ble_eq_true rfl⟩ rfl hl.1 rfl (Nat.le_of_ble_eq_true rfl) dX9_seen_71 ⟨Nat.le_of_ble_eq_true rfl, Nat.le_of_ble_eq_true rfl⟩) (adr_app rfl (adr_app aW_adr rfl)) (asc2 _ _ _) (ww' := mO g o ab be lm ra ta ti fa um ua hh ++ (aW g (o 1) 3 (upd rf 2 (rf 2 + 1)) ++ (aW g (o 2) 45 r ++ (aW g (o 5) 94 tl ++ [])))) (asc2 _ _ _) hP hD hS (fun H locs hP hD hS => ?_)
              exact ret_rwi hx hb hr hlk (by simp only [c1, c2, c3, c4, c5, c6, if_true, if_false, eq_self, Bool.false_eq_true, Bool.and_true, Bool.true_and, Bool.and_false, Bool.false_and]) (kP_eq (by simp only [c1, c2, c3, c4, c5, c6, if_true, if_false, eq_self, Bool.false_eq_true, Bool.and_true, Bool.true_and, Bool.and_false, Bool.false_and]) hP) hS dX9_seen_74
          · skip
            have c5 := b2i_0 c5
            refine lv_aload_n hx hb dX9_seen_53 rfl (lv_at hl 0 rfl) ?_
            refine lv_bipush (v := -2) hx hb dX9_seen_54 rfl ?_
            refine rw_i (run_V (As := [.int (-2)]) (rest := []) hC.1 ckX9_bad (kX9_bad l g o ab be lm ra ta ti fa um ua hh rf (-2)) (gw_in m_1041 rfl) (fb_rw _ _ _) (va_recv hK.1 (kP_app.mp hP).1 (q0 := 0) rfl rfl) (fun U hU hW => ⟨by rw [hU]; exact (kP_app.mpr ⟨(kP_app.mp hP).1, (kP_app.mpr ⟨(kP_app.mp (kP_app.mp hP).2).1, kP_nil⟩)⟩), kK_warm hW hK, vD_sub (sbA _ (sbA _ (sb0 _))) hD⟩) ⟨rfl, rfl, Nat.le_of_ble_eq_true rfl, Nat.le_of_ble_eq_true rfl⟩ rfl hl.1 rfl (Nat.le_of_ble_eq_true rfl) dX9_seen_56 ⟨Nat.le_of_ble_eq_true rfl, Nat.le_of_ble_eq_true rfl⟩) (adr_app rfl (adr_app aW_adr rfl)) (asc2 _ _ _) (ww' := mO g o ab be lm ra ta ti fa um ua hh ++ (aW g (o 1) 3 (upd rf 0 (rf 0 + 1)) ++ (aW g (o 2) 45 r ++ (aW g (o 5) 94 tl ++ [])))) (asc2 _ _ _) hP hD hS (fun H locs hP hD hS => ?_)
            exact ret_rwi hx hb hr hlk (by simp only [c1, c2, c3, c4, c5, if_true, if_false, eq_self, Bool.false_eq_true, Bool.and_true, Bool.true_and, Bool.and_false, Bool.false_and]) (kP_eq (by simp only [c1, c2, c3, c4, c5, if_true, if_false, eq_self, Bool.false_eq_true, Bool.and_true, Bool.true_and, Bool.and_false, Bool.false_and]) hP) hS dX9_seen_59
