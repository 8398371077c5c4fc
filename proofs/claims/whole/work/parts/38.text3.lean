theorem ckX5_nextToken : ckV yX5_nextToken cX5_nextToken 2 none 0 := ⟨(gw_in m_392 rfl), (gw_in m_68 rfl), ⟨(gw_in m_391 rfl), (gw_in m_2 rfl)⟩, by decide +kernel, by decide +kernel, by decide +kernel⟩
set_option maxHeartbeats 4000000 in
set_option maxRecDepth 100000 in
theorem kX5_nextToken (l : Launch) (g : gG) (x : Nat → Nat) (N : Nat) (f : Nat → Int32) (T : T5)  (hN : N ≤ 150) (hbeh : T.2.2.2.1 ≤ N) : Met l yX5_nextToken (.code yX5_nextToken cX5_nextToken 2 none :: gw) (rmN 2) (va_Pc [.ref (x 0)] (rwPre g (xT g x N f T ++ []))) (rwQv g (xT g x N f T ++ []) (xT g x N f (ntT f N T) ++ [])) 0 0 (dm (xT g x N f T ++ [])) := by
  refine met_start (by decide) (Nat.le_of_ble_eq_true rfl) ?_
  intro pp ee ss mm bl mt cd hC hpre ls hl
  obtain ⟨⟨hx, hb, hml, hown, hts⟩, hr, hlk, hnm⟩ := id hC
  have hl : lv_has ls 2 [(0, .ref (x 0))] := hl
  obtain ⟨hP, hK, hD⟩ := hpre
  have hS : va_S (dm (xT g x N f T ++ [])) ss.heap ss.heap [] := va_S.rf
  have hD := vD_self hD
  have hP : kP g (xW g x N T.1 f T.2.1 T.2.2.1 T.2.2.2.1 T.2.2.2.2 ++ []) _ := hP
  have hD : va_D _ (xW g x N T.1 f T.2.1 T.2.2.1 T.2.2.2.1 T.2.2.2.2 ++ []) := hD
  refine lv_aload_n hx hb dX5_nextToken_0 rfl (lv_at hl 0 rfl) ?_
  refine lv_aload_n hx hb dX5_nextToken_1 rfl (lv_at hl 0 rfl) ?_
  refine kget hC.1 hK (kP_app.mp hP).1 0 rfl rfl in_5 5 (by decide) (gw_in m_215 rfl) rfl dX5_nextToken_2 ?_
  refine kput (B' := xW g x N T.1 f T.2.1 T.2.2.2.1 T.2.2.2.1 T.2.2.2.2) hC.1 hK hP hD hS 0 rfl rfl in_5 tyX5 tyX5_ok nmX5 4 (by decide) (gw_in m_214 rfl) rfl (ty := .int) (by decide +kernel) rfl rfl (Nat.le_of_ble_eq_true rfl) (fun _ h => h) xW_adr dX5_nextToken_5 (fun H locs hP hD hS => ?_)
  have cut8 : ∀ kk : Nat, ∀ (b : Nat), N + 1 - b < kk → (hbN : b ≤ N) → (he : skF (fun k => decide (f k = 32)) N b = skF (fun k => decide (f k = 32)) N T.2.2.2.1) → ∀ (H : Heap) (locs : List Loc), kP g (xW g x N T.1 f T.2.1 b T.2.2.2.1 T.2.2.2.2 ++ []) H → va_D (dm (xT g x N f T ++ [])) (xW g x N T.1 f T.2.1 b T.2.2.2.1 T.2.2.2.2 ++ []) → va_S (dm (xT g x N f T ++ [])) ss.heap H locs → ∀ (ls : Array Slot), lv_has ls 2 [(0, .ref (x 0))] → W pp l ee (rmN 2) ss mm ([.ref (x 0)] : List Value).toArray bl mt cd H locs 0 0 (MQ bl (rwQv g (xT g x N f T ++ []) (xT g x N f (ntT f N T) ++ [])) ([.ref (x 0)] : List Value).toArray ss 0 0 (dm (xT g x N f T ++ []))) (F0 mm 8 ls []) := by
    intro kk
    induction kk with
    | zero => intro b hmu; exact absurd hmu (Nat.not_lt_zero _)
    | succ kk ih8 =>
      intro b hmu hbN he H locs hP hD hS ls hl
      refine lv_aload_n hx hb dX5_nextToken_8 rfl (lv_at hl 0 rfl) ?_
      refine kget hC.1 hK (kP_app.mp hP).1 0 rfl rfl in_5 4 (by decide) (gw_in m_214 rfl) rfl dX5_nextToken_9 ?_
      refine lv_aload_n hx hb dX5_nextToken_12 rfl (lv_at hl 0 rfl) ?_
      refine kget hC.1 hK (kP_app.mp hP).1 0 rfl rfl in_5 0 (by decide) (gw_in m_208 rfl) rfl dX5_nextToken_13 ?_
      refine lv_icmp_ge (tgt := 45) hx hb dX5_nextToken_16 (by decide) (fun c1 => ?_) (fun c1 => ?_)
      · skip
        have c1' := Int32.not_lt.mpr c1
        have hbn : ¬ b < N := by rw [nI_leI (by omega) (by omega)] at c1; omega
        have hfin : skF (fun k => decide (f k = 32)) N b = b := skF_stop (fun h => absurd h.1 hbn)
        have hse : skF (fun k => decide (f k = 32)) N T.2.2.2.1 = b := he.symm.trans hfin
        have hP : kP g (xW g x N T.1 f T.2.1 (skF (fun k => decide (f k = 32)) N T.2.2.2.1) T.2.2.2.1 T.2.2.2.2 ++ []) _ := kP_eq (by rw [hse]) hP
        have hD : va_D _ (xW g x N T.1 f T.2.1 (skF (fun k => decide (f k = 32)) N T.2.2.2.1) T.2.2.2.1 T.2.2.2.2 ++ []) := vD_eq (by rw [hse]) hD
        have hle : (skF (fun k => decide (f k = 32)) N T.2.2.2.1) ≤ N := skF_le hbeh
        refine lv_aload_n hx hb dX5_nextToken_45 rfl (lv_at hl 0 rfl) ?_
        refine lv_aload_n hx hb dX5_nextToken_46 rfl (lv_at hl 0 rfl) ?_
        refine kget hC.1 hK (kP_app.mp hP).1 0 rfl rfl in_5 4 (by decide) (gw_in m_214 rfl) rfl dX5_nextToken_47 ?_
        refine lv_iconst (v := 1) hx hb dX5_nextToken_50 rfl ?_
        refine lv_iadd hx hb dX5_nextToken_51 ?_
        refine top_i (x := (nI (skF (fun k => decide (f k = 32)) N T.2.2.2.1)) + 1) (y := nI ((skF (fun k => decide (f k = 32)) N T.2.2.2.1) + 1)) (nI_1 (skF (fun k => decide (f k = 32)) N T.2.2.2.1)) ?_
        refine kput (B' := xW g x N T.1 f T.2.1 (skF (fun k => decide (f k = 32)) N T.2.2.2.1) ((skF (fun k => decide (f k = 32)) N T.2.2.2.1) + 1) T.2.2.2.2) hC.1 hK hP hD hS 0 rfl rfl in_5 tyX5 tyX5_ok nmX5 5 (by decide) (gw_in m_215 rfl) rfl (ty := .int) (by decide +kernel) rfl rfl (Nat.le_of_ble_eq_true rfl) (fun _ h => h) xW_adr dX5_nextToken_52 (fun H locs hP hD hS => ?_)
        refine lv_aload_n hx hb dX5_nextToken_55 rfl (lv_at hl 0 rfl) ?_
        refine lv_aload_n hx hb dX5_nextToken_56 rfl (lv_at hl 0 rfl) ?_
        refine kget hC.1 hK (kP_app.mp hP).1 0 rfl rfl in_5 4 (by decide) (gw_in m_214 rfl) rfl dX5_nextToken_57 ?_
        refine ro_i (run_V (As := [.int (nI (skF (fun k => decide (f k = 32)) N T.2.2.2.1))]) (rest := []) hC.1 ckX5_byteAt (kX5_byteAt l g x N T.1 f T.2.1 (skF (fun k => decide (f k = 32)) N T.2.2.2.1) ((skF (fun k => decide (f k = 32)) N T.2.2.2.1) + 1) T.2.2.2.2 (skF (fun k => decide (f k = 32)) N T.2.2.2.1) hN (by omega)) (gw_in m_393 rfl) (fb_ro _ _ _) (va_recv hK.1 (kP_app.mp hP).1 (q0 := 0) rfl rfl) (fun U hU hW => ⟨by rw [hU]; exact (kP_app.mp hP).1, kK_warm hW hK⟩) ⟨rfl, rfl, Nat.le_of_ble_eq_true rfl, Nat.le_of_ble_eq_true rfl⟩ rfl hl.1 rfl (Nat.le_of_ble_eq_true rfl) dX5_nextToken_60 ⟨Nat.le_of_ble_eq_true rfl, Nat.le_of_ble_eq_true rfl⟩) ?_
        refine lv_istore_n (lv' := [(1, .int (bAt f N (skF (fun k => decide (f k = 32)) N T.2.2.2.1))), (0, .ref (x 0))]) hx hb dX5_nextToken_63 rfl hl (by decide) rfl (fun ls hl => ?_)
        refine lv_aload_n hx hb dX5_nextToken_64 rfl (lv_at hl 1 rfl) ?_
        refine kget hC.1 hK (kP_app.mp hP).1 0 rfl rfl in_5 4 (by decide) (gw_in m_214 rfl) rfl dX5_nextToken_65 ?_
        refine lv_aload_n hx hb dX5_nextToken_68 rfl (lv_at hl 1 rfl) ?_
        refine kget hC.1 hK (kP_app.mp hP).1 0 rfl rfl in_5 0 (by decide) (gw_in m_208 rfl) rfl dX5_nextToken_69 ?_
        refine lv_icmp_lt (tgt := 83) hx hb dX5_nextToken_72 (by decide) (fun c2 => ?_) (fun c2 => ?_)
        · skip
          have c2' := Int32.not_le.mpr c2
          have hSN : (skF (fun k => decide (f k = 32)) N T.2.2.2.1) < N := by rw [nI_ltI (by omega) (by omega)] at c2; exact c2
          have hl : lv_has ls 2 [(1, .int (f (skF (fun k => decide (f k = 32)) N T.2.2.2.1))), (0, .ref (x 0))] := by rw [show f (skF (fun k => decide (f k = 32)) N T.2.2.2.1) = bAt f N (skF (fun k => decide (f k = 32)) N T.2.2.2.1) from (if_pos hSN).symm]; exact hl
          refine lv_iload_n hx hb dX5_nextToken_83 rfl (lv_at hl 0 rfl) ?_
          refine ro_i (run_S (As := [.int (f (skF (fun k => decide (f k = 32)) N T.2.2.2.1))]) (rest := []) hC.1 ckX5_isLetter (kX5_isLetter l (f (skF (fun k => decide (f k = 32)) N T.2.2.2.1))) (gw_in m_397 rfl) (fb_nil _) (fun _ _ _ => trivial) ⟨rfl, rfl, Nat.le_of_ble_eq_true rfl, Nat.le_of_ble_eq_true rfl⟩ rfl hl.1 rfl (Nat.le_of_ble_eq_true rfl) dX5_nextToken_84 ⟨Nat.le_of_ble_eq_true rfl, Nat.le_of_ble_eq_true rfl⟩) ?_
          refine lv_if_eq (tgt := 97) hx hb dX5_nextToken_87 (by decide) (fun c3 => ?_) (fun c3 => ?_)
          · skip
            have c3 := b2i_0 c3
            refine lv_iload_n hx hb dX5_nextToken_97 rfl (lv_at hl 0 rfl) ?_
            refine ro_i (run_S (As := [.int (f (skF (fun k => decide (f k = 32)) N T.2.2.2.1))]) (rest := []) hC.1 ckX5_isFigure (kX5_isFigure l (f (skF (fun k => decide (f k = 32)) N T.2.2.2.1))) (gw_in m_404 rfl) (fb_nil _) (fun _ _ _ => trivial) ⟨rfl, rfl, Nat.le_of_ble_eq_true rfl, Nat.le_of_ble_eq_true rfl⟩ rfl hl.1 rfl (Nat.le_of_ble_eq_true rfl) dX5_nextToken_98 ⟨Nat.le_of_ble_eq_true rfl, Nat.le_of_ble_eq_true rfl⟩) ?_
            refine lv_if_eq (tgt := 111) hx hb dX5_nextToken_101 (by decide) (fun c4 => ?_) (fun c4 => ?_)
            · skip
              have c4 := b2i_0 c4
              refine lv_aload_n hx hb dX5_nextToken_111 rfl (lv_at hl 1 rfl) ?_
              refine lv_iload_n hx hb dX5_nextToken_112 rfl (lv_at hl 0 rfl) ?_
              refine lv_bipush (v := 59) hx hb dX5_nextToken_113 rfl ?_
              refine lv_icmp_ne (tgt := 122) hx hb dX5_nextToken_115 (by decide) (fun c5 => ?_) (fun c5 => ?_)
              · skip
                refine lv_iconst (v := 4) hx hb dX5_nextToken_122 rfl ?_
                refine kput (B' := xW g x N T.1 f 4 (skF (fun k => decide (f k = 32)) N T.2.2.2.1) ((skF (fun k => decide (f k = 32)) N T.2.2.2.1) + 1) T.2.2.2.2) hC.1 hK hP hD hS 0 rfl rfl in_5 tyX5 tyX5_ok nmX5 3 (by decide) (gw_in m_213 rfl) rfl (ty := .int) (by decide +kernel) rfl rfl (Nat.le_of_ble_eq_true rfl) (fun _ h => h) xW_adr dX5_nextToken_123 (fun H locs hP hD hS => ?_)
                exact ret_rwv hx hb hr hlk (kP_eq (by unfold ntT; simp only [hSN, c3, c4, c5, if_true, if_false, Bool.false_eq_true]; try rfl) hP) hS dX5_nextToken_126
              · skip
                refine lv_iconst (v := 3) hx hb dX5_nextToken_118 rfl ?_
                refine lv_goto (tgt := 123) hx hb dX5_nextToken_119 (by decide) ?_
                refine kput (B' := xW g x N T.1 f 3 (skF (fun k => decide (f k = 32)) N T.2.2.2.1) ((skF (fun k => decide (f k = 32)) N T.2.2.2.1) + 1) T.2.2.2.2) hC.1 hK hP hD hS 0 rfl rfl in_5 tyX5 tyX5_ok nmX5 3 (by decide) (gw_in m_213 rfl) rfl (ty := .int) (by decide +kernel) rfl rfl (Nat.le_of_ble_eq_true rfl) (fun _ h => h) xW_adr dX5_nextToken_123 (fun H locs hP hD hS => ?_)
                exact ret_rwv hx hb hr hlk (kP_eq (by unfold ntT; simp only [hSN, c3, c4, c5, if_true, if_false, Bool.false_eq_true]; try rfl) hP) hS dX5_nextToken_126
            · skip
              have c4 := b2i_1 c4
              refine lv_aload_n hx hb dX5_nextToken_104 rfl (lv_at hl 1 rfl) ?_
              refine rw_v (run_V (As := []) (rest := []) hC.1 ckX5_endNumber (kX5_endNumber l g x N T.1 f T.2.1 (skF (fun k => decide (f k = 32)) N T.2.2.2.1) ((skF (fun k => decide (f k = 32)) N T.2.2.2.1) + 1) T.2.2.2.2 hN (by omega) (by omega)) (gw_in m_407 rfl) (fb_rw _ _ _) (va_recv hK.1 (kP_app.mp hP).1 (q0 := 0) rfl rfl) (fun U hU hW => ⟨by rw [hU]; exact (kP_app.mpr ⟨(kP_app.mp hP).1, kP_nil⟩), kK_warm hW hK, vD_sub (sbA _ (sb0 _)) hD⟩) ⟨rfl, rfl, Nat.le_of_ble_eq_true rfl, Nat.le_of_ble_eq_true rfl⟩ rfl hl.1 rfl (Nat.le_of_ble_eq_true rfl) dX5_nextToken_105 ⟨Nat.le_of_ble_eq_true rfl, Nat.le_of_ble_eq_true rfl⟩) (adr_app xW_adr rfl) (asc1 _ _) (ww' := xW g x N T.1 f (if (skF (fun k => wth (f k) 48 57) N ((skF (fun k => decide (f k = 32)) N T.2.2.2.1) + 1)) - (skF (fun k => decide (f k = 32)) N T.2.2.2.1) ≤ 2 then 2 else 4) (skF (fun k => decide (f k = 32)) N T.2.2.2.1) (skF (fun k => wth (f k) 48 57) N ((skF (fun k => decide (f k = 32)) N T.2.2.2.1) + 1)) (nuV f N (skF (fun k => decide (f k = 32)) N T.2.2.2.1) (skF (fun k => wth (f k) 48 57) N ((skF (fun k => decide (f k = 32)) N T.2.2.2.1) + 1))) ++ []) (asc1 _ _) hP hD hS (fun H locs hP hD hS => ?_)
              refine lv_goto (tgt := 126) hx hb dX5_nextToken_108 (by decide) ?_
              exact ret_rwv hx hb hr hlk (kP_eq (by unfold ntT; simp only [hSN, c3, c4, if_true, if_false, Bool.false_eq_true]; try rfl) hP) hS dX5_nextToken_126
          · skip
            have c3 := b2i_1 c3
            refine lv_aload_n hx hb dX5_nextToken_90 rfl (lv_at hl 1 rfl) ?_
            refine rw_v (run_V (As := []) (rest := []) hC.1 ckX5_endWord (kX5_endWord l g x N T.1 f T.2.1 (skF (fun k => decide (f k = 32)) N T.2.2.2.1) ((skF (fun k => decide (f k = 32)) N T.2.2.2.1) + 1) T.2.2.2.2 hN (by omega)) (gw_in m_400 rfl) (fb_rw _ _ _) (va_recv hK.1 (kP_app.mp hP).1 (q0 := 0) rfl rfl) (fun U hU hW => ⟨by rw [hU]; exact (kP_app.mpr ⟨(kP_app.mp hP).1, kP_nil⟩), kK_warm hW hK, vD_sub (sbA _ (sb0 _)) hD⟩) ⟨rfl, rfl, Nat.le_of_ble_eq_true rfl, Nat.le_of_ble_eq_true rfl⟩ rfl hl.1 rfl (Nat.le_of_ble_eq_true rfl) dX5_nextToken_91 ⟨Nat.le_of_ble_eq_true rfl, Nat.le_of_ble_eq_true rfl⟩) (adr_app xW_adr rfl) (asc1 _ _) (ww' := xW g x N T.1 f 1 (skF (fun k => decide (f k = 32)) N T.2.2.2.1) (skF (fun k => wth (f k) 97 122) N ((skF (fun k => decide (f k = 32)) N T.2.2.2.1) + 1)) T.2.2.2.2 ++ []) (asc1 _ _) hP hD hS (fun H locs hP hD hS => ?_)
            refine lv_goto (tgt := 126) hx hb dX5_nextToken_94 (by decide) ?_
            exact ret_rwv hx hb hr hlk (kP_eq (by unfold ntT; simp only [hSN, c3, if_true, if_false, Bool.false_eq_true]; try rfl) hP) hS dX5_nextToken_126
        · skip
          have c2' := Int32.not_lt.mp c2
          have hSN : ¬ (skF (fun k => decide (f k = 32)) N T.2.2.2.1) < N := by rw [nI_ltI (by omega) (by omega)] at c2; exact c2
          refine lv_aload_n hx hb dX5_nextToken_75 rfl (lv_at hl 1 rfl) ?_
          refine lv_iconst (v := 0) hx hb dX5_nextToken_76 rfl ?_
          refine kput (B' := xW g x N T.1 f 0 (skF (fun k => decide (f k = 32)) N T.2.2.2.1) ((skF (fun k => decide (f k = 32)) N T.2.2.2.1) + 1) T.2.2.2.2) hC.1 hK hP hD hS 0 rfl rfl in_5 tyX5 tyX5_ok nmX5 3 (by decide) (gw_in m_213 rfl) rfl (ty := .int) (by decide +kernel) rfl rfl (Nat.le_of_ble_eq_true rfl) (fun _ h => h) xW_adr dX5_nextToken_77 (fun H locs hP hD hS => ?_)
          refine lv_goto (tgt := 126) hx hb dX5_nextToken_80 (by decide) ?_
          exact ret_rwv hx hb hr hlk (kP_eq (by unfold ntT; simp only [hSN, if_true, if_false, Bool.false_eq_true]; try rfl) hP) hS dX5_nextToken_126
      · skip
        have c1' := Int32.not_le.mp c1
        have hbn : b < N := by rw [nI_leI (by omega) (by omega)] at c1; omega
        refine lv_aload_n hx hb dX5_nextToken_19 rfl (lv_at hl 0 rfl) ?_
        refine lv_aload_n hx hb dX5_nextToken_20 rfl (lv_at hl 0 rfl) ?_
        refine kget hC.1 hK (kP_app.mp hP).1 0 rfl rfl in_5 4 (by decide) (gw_in m_214 rfl) rfl dX5_nextToken_21 ?_
        refine ro_i (run_V (As := [.int (nI b)]) (rest := []) hC.1 ckX5_byteAt (kX5_byteAt l g x N T.1 f T.2.1 b T.2.2.2.1 T.2.2.2.2 b hN (by omega)) (gw_in m_393 rfl) (fb_ro _ _ _) (va_recv hK.1 (kP_app.mp hP).1 (q0 := 0) rfl rfl) (fun U hU hW => ⟨by rw [hU]; exact (kP_app.mp hP).1, kK_warm hW hK⟩) ⟨rfl, rfl, Nat.le_of_ble_eq_true rfl, Nat.le_of_ble_eq_true rfl⟩ rfl hl.1 rfl (Nat.le_of_ble_eq_true rfl) dX5_nextToken_24 ⟨Nat.le_of_ble_eq_true rfl, Nat.le_of_ble_eq_true rfl⟩) ?_
        refine top_i (x := bAt f N b) (y := f b) (if_pos (by omega)) ?_
        refine lv_bipush (v := 32) hx hb dX5_nextToken_27 rfl ?_
        refine lv_icmp_ne (tgt := 45) hx hb dX5_nextToken_29 (by decide) (fun c6 => ?_) (fun c6 => ?_)
        · skip
          have hfin : skF (fun k => decide (f k = 32)) N b = b := skF_stop (fun h => c6 (by simpa using h.2))
          have hse : skF (fun k => decide (f k = 32)) N T.2.2.2.1 = b := he.symm.trans hfin
          have hP : kP g (xW g x N T.1 f T.2.1 (skF (fun k => decide (f k = 32)) N T.2.2.2.1) T.2.2.2.1 T.2.2.2.2 ++ []) _ := kP_eq (by rw [hse]) hP
          have hD : va_D _ (xW g x N T.1 f T.2.1 (skF (fun k => decide (f k = 32)) N T.2.2.2.1) T.2.2.2.1 T.2.2.2.2 ++ []) := vD_eq (by rw [hse]) hD
          have hle : (skF (fun k => decide (f k = 32)) N T.2.2.2.1) ≤ N := skF_le hbeh
          refine lv_aload_n hx hb dX5_nextToken_45 rfl (lv_at hl 0 rfl) ?_
          refine lv_aload_n hx hb dX5_nextToken_46 rfl (lv_at hl 0 rfl) ?_
          refine kget hC.1 hK (kP_app.mp hP).1 0 rfl rfl in_5 4 (by decide) (gw_in m_214 rfl) rfl dX5_nextToken_47 ?_
          refine lv_iconst (v := 1) hx hb dX5_nextToken_50 rfl ?_
          refine lv_iadd hx hb dX5_nextToken_51 ?_
          refine top_i (x := (nI (skF (fun k => decide (f k = 32)) N T.2.2.2.1)) + 1) (y := nI ((skF (fun k => decide (f k = 32)) N T.2.2.2.1) + 1)) (nI_1 (skF (fun k => decide (f k = 32)) N T.2.2.2.1)) ?_
          refine kput (B' := xW g x N T.1 f T.2.1 (skF (fun k => decide (f k = 32)) N T.2.2.2.1) ((skF (fun k => decide (f k = 32)) N T.2.2.2.1) + 1) T.2.2.2.2) hC.1 hK hP hD hS 0 rfl rfl in_5 tyX5 tyX5_ok nmX5 5 (by decide) (gw_in m_215 rfl) rfl (ty := .int) (by decide +kernel) rfl rfl (Nat.le_of_ble_eq_true rfl) (fun _ h => h) xW_adr dX5_nextToken_52 (fun H locs hP hD hS => ?_)
          refine lv_aload_n hx hb dX5_nextToken_55 rfl (lv_at hl 0 rfl) ?_
          refine lv_aload_n hx hb dX5_nextToken_56 rfl (lv_at hl 0 rfl) ?_
          refine kget hC.1 hK (kP_app.mp hP).1 0 rfl rfl in_5 4 (by decide) (gw_in m_214 rfl) rfl dX5_nextToken_57 ?_
          refine ro_i (run_V (As := [.int (nI (skF (fun k => decide (f k = 32)) N T.2.2.2.1))]) (rest := []) hC.1 ckX5_byteAt (kX5_byteAt l g x N T.1 f T.2.1 (skF (fun k => decide (f k = 32)) N T.2.2.2.1) ((skF (fun k => decide (f k = 32)) N T.2.2.2.1) + 1) T.2.2.2.2 (skF (fun k => decide (f k = 32)) N T.2.2.2.1) hN (by omega)) (gw_in m_393 rfl) (fb_ro _ _ _) (va_recv hK.1 (kP_app.mp hP).1 (q0 := 0) rfl rfl) (fun U hU hW => ⟨by rw [hU]; exact (kP_app.mp hP).1, kK_warm hW hK⟩) ⟨rfl, rfl, Nat.le_of_ble_eq_true rfl, Nat.le_of_ble_eq_true rfl⟩ rfl hl.1 rfl (Nat.le_of_ble_eq_true rfl) dX5_nextToken_60 ⟨Nat.le_of_ble_eq_true rfl, Nat.le_of_ble_eq_true rfl⟩) ?_
          refine lv_istore_n (lv' := [(1, .int (bAt f N (skF (fun k => decide (f k = 32)) N T.2.2.2.1))), (0, .ref (x 0))]) hx hb dX5_nextToken_63 rfl hl (by decide) rfl (fun ls hl => ?_)
          refine lv_aload_n hx hb dX5_nextToken_64 rfl (lv_at hl 1 rfl) ?_
          refine kget hC.1 hK (kP_app.mp hP).1 0 rfl rfl in_5 4 (by decide) (gw_in m_214 rfl) rfl dX5_nextToken_65 ?_
          refine lv_aload_n hx hb dX5_nextToken_68 rfl (lv_at hl 1 rfl) ?_
          refine kget hC.1 hK (kP_app.mp hP).1 0 rfl rfl in_5 0 (by decide) (gw_in m_208 rfl) rfl dX5_nextToken_69 ?_
          refine lv_icmp_lt (tgt := 83) hx hb dX5_nextToken_72 (by decide) (fun c7 => ?_) (fun c7 => ?_)
          · skip
            have c7' := Int32.not_le.mpr c7
            have hSN : (skF (fun k => decide (f k = 32)) N T.2.2.2.1) < N := by rw [nI_ltI (by omega) (by omega)] at c7; exact c7
            have hl : lv_has ls 2 [(1, .int (f (skF (fun k => decide (f k = 32)) N T.2.2.2.1))), (0, .ref (x 0))] := by rw [show f (skF (fun k => decide (f k = 32)) N T.2.2.2.1) = bAt f N (skF (fun k => decide (f k = 32)) N T.2.2.2.1) from (if_pos hSN).symm]; exact hl
            refine lv_iload_n hx hb dX5_nextToken_83 rfl (lv_at hl 0 rfl) ?_
            refine ro_i (run_S (As := [.int (f (skF (fun k => decide (f k = 32)) N T.2.2.2.1))]) (rest := []) hC.1 ckX5_isLetter (kX5_isLetter l (f (skF (fun k => decide (f k = 32)) N T.2.2.2.1))) (gw_in m_397 rfl) (fb_nil _) (fun _ _ _ => trivial) ⟨rfl, rfl, Nat.le_of_ble_eq_true rfl, Nat.le_of_ble_eq_true rfl⟩ rfl hl.1 rfl (Nat.le_of_ble_eq_true rfl) dX5_nextToken_84 ⟨Nat.le_of_ble_eq_true rfl, Nat.le_of_ble_eq_true rfl⟩) ?_
            refine lv_if_eq (tgt := 97) hx hb dX5_nextToken_87 (by decide) (fun c8 => ?_) (fun c8 => ?_)
            · skip
              have c8 := b2i_0 c8
              refine lv_iload_n hx hb dX5_nextToken_97 rfl (lv_at hl 0 rfl) ?_
              refine ro_i (run_S (As := [.int (f (skF (fun k => decide (f k = 32)) N T.2.2.2.1))]) (rest := []) hC.1 ckX5_isFigure (kX5_isFigure l (f (skF (fun k => decide (f k = 32)) N T.2.2.2.1))) (gw_in m_404 rfl) (fb_nil _) (fun _ _ _ => trivial) ⟨rfl, rfl, Nat.le_of_ble_eq_true rfl, Nat.le_of_ble_eq_true rfl⟩ rfl hl.1 rfl (Nat.le_of_ble_eq_true rfl) dX5_nextToken_98 ⟨Nat.le_of_ble_eq_true rfl, Nat.le_of_ble_eq_true rfl⟩) ?_
              refine lv_if_eq (tgt := 111) hx hb dX5_nextToken_101 (by decide) (fun c9 => ?_) (fun c9 => ?_)
              · skip
                have c9 := b2i_0 c9
                refine lv_aload_n hx hb dX5_nextToken_111 rfl (lv_at hl 1 rfl) ?_
                refine lv_iload_n hx hb dX5_nextToken_112 rfl (lv_at hl 0 rfl) ?_
                refine lv_bipush (v := 59) hx hb dX5_nextToken_113 rfl ?_
                refine lv_icmp_ne (tgt := 122) hx hb dX5_nextToken_115 (by decide) (fun c10 => ?_) (fun c10 => ?_)
                · skip
                  refine lv_iconst (v := 4) hx hb dX5_nextToken_122 rfl ?_
                  refine kput (B' := xW g x N T.1 f 4 (skF (fun k => decide (f k = 32)) N T.2.2.2.1) ((skF (fun k => decide (f k = 32)) N T.2.2.2.1) + 1) T.2.2.2.2) hC.1 hK hP hD hS 0 rfl rfl in_5 tyX5 tyX5_ok nmX5 3 (by decide) (gw_in m_213 rfl) rfl (ty := .int) (by decide +kernel) rfl rfl (Nat.le_of_ble_eq_true rfl) (fun _ h => h) xW_adr dX5_nextToken_123 (fun H locs hP hD hS => ?_)
                  exact ret_rwv hx hb hr hlk (kP_eq (by unfold ntT; simp only [hSN, c8, c9, c10, if_true, if_false, Bool.false_eq_true]; try rfl) hP) hS dX5_nextToken_126
                · skip
                  refine lv_iconst (v := 3) hx hb dX5_nextToken_118 rfl ?_
                  refine lv_goto (tgt := 123) hx hb dX5_nextToken_119 (by decide) ?_
                  refine kput (B' := xW g x N T.1 f 3 (skF (fun k => decide (f k = 32)) N T.2.2.2.1) ((skF (fun k => decide (f k = 32)) N T.2.2.2.1) + 1) T.2.2.2.2) hC.1 hK hP hD hS 0 rfl rfl in_5 tyX5 tyX5_ok nmX5 3 (by decide) (gw_in m_213 rfl) rfl (ty := .int) (by decide +kernel) rfl rfl (Nat.le_of_ble_eq_true rfl) (fun _ h => h) xW_adr dX5_nextToken_123 (fun H locs hP hD hS => ?_)
                  exact ret_rwv hx hb hr hlk (kP_eq (by unfold ntT; simp only [hSN, c8, c9, c10, if_true, if_false, Bool.false_eq_true]; try rfl) hP) hS dX5_nextToken_126
              · skip
                have c9 := b2i_1 c9
                refine lv_aload_n hx hb dX5_nextToken_104 rfl (lv_at hl 1 rfl) ?_
                refine rw_v (run_V (As := []) (rest := []) hC.1 ckX5_endNumber (kX5_endNumber l g x N T.1 f T.2.1 (skF (fun k => decide (f k = 32)) N T.2.2.2.1) ((skF (fun k => decide (f k = 32)) N T.2.2.2.1) + 1) T.2.2.2.2 hN (by omega) (by omega)) (gw_in m_407 rfl) (fb_rw _ _ _) (va_recv hK.1 (kP_app.mp hP).1 (q0 := 0) rfl rfl) (fun U hU hW => ⟨by rw [hU]; exact (kP_app.mpr ⟨(kP_app.mp hP).1, kP_nil⟩), kK_warm hW hK, vD_sub (sbA _ (sb0 _)) hD⟩) ⟨rfl, rfl, Nat.le_of_ble_eq_true rfl, Nat.le_of_ble_eq_true rfl⟩ rfl hl.1 rfl (Nat.le_of_ble_eq_true rfl) dX5_nextToken_105 ⟨Nat.le_of_ble_eq_true rfl, Nat.le_of_ble_eq_true rfl⟩) (adr_app xW_adr rfl) (asc1 _ _) (ww' := xW g x N T.1 f (if (skF (fun k => wth (f k) 48 57) N ((skF (fun k => decide (f k = 32)) N T.2.2.2.1) + 1)) - (skF (fun k => decide (f k = 32)) N T.2.2.2.1) ≤ 2 then 2 else 4) (skF (fun k => decide (f k = 32)) N T.2.2.2.1) (skF (fun k => wth (f k) 48 57) N ((skF (fun k => decide (f k = 32)) N T.2.2.2.1) + 1)) (nuV f N (skF (fun k => decide (f k = 32)) N T.2.2.2.1) (skF (fun k => wth (f k) 48 57) N ((skF (fun k => decide (f k = 32)) N T.2.2.2.1) + 1))) ++ []) (asc1 _ _) hP hD hS (fun H locs hP hD hS => ?_)
                refine lv_goto (tgt := 126) hx hb dX5_nextToken_108 (by decide) ?_
                exact ret_rwv hx hb hr hlk (kP_eq (by unfold ntT; simp only [hSN, c8, c9, if_true, if_false, Bool.false_eq_true]; try rfl) hP) hS dX5_nextToken_126
            · skip
              have c8 := b2i_1 c8
              refine lv_aload_n hx hb dX5_nextToken_90 rfl (lv_at hl 1 rfl) ?_
              refine rw_v (run_V (As := []) (rest := []) hC.1 ckX5_endWord (kX5_endWord l g x N T.1 f T.2.1 (skF (fun k => decide (f k = 32)) N T.2.2.2.1) ((skF (fun k => decide (f k = 32)) N T.2.2.2.1) + 1) T.2.2.2.2 hN (by omega)) (gw_in m_400 rfl) (fb_rw _ _ _) (va_recv hK.1 (kP_app.mp hP).1 (q0 := 0) rfl rfl) (fun U hU hW => ⟨by rw [hU]; exact (kP_app.mpr ⟨(kP_app.mp hP).1, kP_nil⟩), kK_warm hW hK, vD_sub (sbA _ (sb0 _)) hD⟩) ⟨rfl, rfl, Nat.le_of_ble_eq_true rfl, Nat.le_of_ble_eq_true rfl⟩ rfl hl.1 rfl (Nat.le_of_ble_eq_true rfl) dX5_nextToken_91 ⟨Nat.le_of_ble_eq_true rfl, Nat.le_of_ble_eq_true rfl⟩) (adr_app xW_adr rfl) (asc1 _ _) (ww' := xW g x N T.1 f 1 (skF (fun k => decide (f k = 32)) N T.2.2.2.1) (skF (fun k => wth (f k) 97 122) N ((skF (fun k => decide (f k = 32)) N T.2.2.2.1) + 1)) T.2.2.2.2 ++ []) (asc1 _ _) hP hD hS (fun H locs hP hD hS => ?_)
              refine lv_goto (tgt := 126) hx hb dX5_nextToken_94 (by decide) ?_
              exact ret_rwv hx hb hr hlk (kP_eq (by unfold ntT; simp only [hSN, c8, if_true, if_false, Bool.false_eq_true]; try rfl) hP) hS dX5_nextToken_126
          · skip
            have c7' := Int32.not_lt.mp c7
            have hSN : ¬ (skF (fun k => decide (f k = 32)) N T.2.2.2.1) < N := by rw [nI_ltI (by omega) (by omega)] at c7; exact c7
            refine lv_aload_n hx hb dX5_nextToken_75 rfl (lv_at hl 1 rfl) ?_
            refine lv_iconst (v := 0) hx hb dX5_nextToken_76 rfl ?_
            refine kput (B' := xW g x N T.1 f 0 (skF (fun k => decide (f k = 32)) N T.2.2.2.1) ((skF (fun k => decide (f k = 32)) N T.2.2.2.1) + 1) T.2.2.2.2) hC.1 hK hP hD hS 0 rfl rfl in_5 tyX5 tyX5_ok nmX5 3 (by decide) (gw_in m_213 rfl) rfl (ty := .int) (by decide +kernel) rfl rfl (Nat.le_of_ble_eq_true rfl) (fun _ h => h) xW_adr dX5_nextToken_77 (fun H locs hP hD hS => ?_)
            refine lv_goto (tgt := 126) hx hb dX5_nextToken_80 (by decide) ?_
            exact ret_rwv hx hb hr hlk (kP_eq (by unfold ntT; simp only [hSN, if_true, if_false, Bool.false_eq_true]; try rfl) hP) hS dX5_nextToken_126
        · skip
          refine lv_aload_n hx hb dX5_nextToken_32 rfl (lv_at hl 0 rfl) ?_
          refine lv_dup hx hb dX5_nextToken_33 rfl ?_
          refine kget hC.1 hK (kP_app.mp hP).1 0 rfl rfl in_5 4 (by decide) (gw_in m_214 rfl) rfl dX5_nextToken_34 ?_
          refine lv_iconst (v := 1) hx hb dX5_nextToken_37 rfl ?_
          refine lv_iadd hx hb dX5_nextToken_38 ?_
          refine top_i (x := (nI b) + 1) (y := nI (b + 1)) (nI_1 b) ?_
          refine kput (B' := xW g x N T.1 f T.2.1 (b + 1) T.2.2.2.1 T.2.2.2.2) hC.1 hK hP hD hS 0 rfl rfl in_5 tyX5 tyX5_ok nmX5 4 (by decide) (gw_in m_214 rfl) rfl (ty := .int) (by decide +kernel) rfl rfl (Nat.le_of_ble_eq_true rfl) (fun _ h => h) xW_adr dX5_nextToken_39 (fun H locs hP hD hS => ?_)
          refine lv_goto (tgt := 8) hx hb dX5_nextToken_42 (by decide) ?_
          exact ih8 (b + 1) (by omega) (by omega) ((skF_go hbn (by simpa using c6)).symm.trans he) _ _ hP hD hS _ (lv_sub hl [0] rfl)
  exact cut8 _ T.2.2.2.1 (Nat.lt_succ_self _) hbeh rfl _ _ hP hD hS _ (lv_sub hl [0] rfl)
