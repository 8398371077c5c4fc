theorem ckX5_isFull : ckV yX5_isFull cX5_isFull 1 (some .boolean) 0 := ⟨(gw_in m_371 rfl), (gw_in m_68 rfl), ⟨(gw_in m_369 rfl), (gw_in m_370 rfl)⟩, by decide +kernel, by decide +kernel, by decide +kernel⟩
theorem ckX5_isLetter : ckS yX5_isLetter cX5_isLetter 1 (some .boolean) 1 := ⟨(gw_in m_399 rfl), (gw_in m_68 rfl), (gw_in m_398 rfl), by decide +kernel, by decide +kernel, by decide +kernel⟩
theorem ckX5_isFigure : ckS yX5_isFigure cX5_isFigure 1 (some .boolean) 1 := ⟨(gw_in m_406 rfl), (gw_in m_68 rfl), (gw_in m_405 rfl), by decide +kernel, by decide +kernel, by decide +kernel⟩
theorem ckX5_byteAt : ckV yX5_byteAt cX5_byteAt 2 (some .int) 1 := ⟨(gw_in m_396 rfl), (gw_in m_68 rfl), ⟨(gw_in m_395 rfl), (gw_in m_3 rfl)⟩, by decide +kernel, by decide +kernel, by decide +kernel⟩
theorem ckX5_add : ckV yX5_add cX5_add 2 none 1 := ⟨(gw_in m_375 rfl), (gw_in m_68 rfl), ⟨(gw_in m_373 rfl), (gw_in m_374 rfl)⟩, by decide +kernel, by decide +kernel, by decide +kernel⟩
theorem ckX5_faultHere : ckV yX5_faultHere cX5_faultHere 1 (some .boolean) 0 := ⟨(gw_in m_480 rfl), (gw_in m_68 rfl), ⟨(gw_in m_479 rfl), (gw_in m_10 rfl)⟩, by decide +kernel, by decide +kernel, by decide +kernel⟩
theorem ckX5_endWord : ckV yX5_endWord cX5_endWord 1 none 0 := ⟨(gw_in m_403 rfl), (gw_in m_68 rfl), ⟨(gw_in m_402 rfl), (gw_in m_4 rfl)⟩, by decide +kernel, by decide +kernel, by decide +kernel⟩
theorem ckX5_endNumber : ckV yX5_endNumber cX5_endNumber 1 none 0 := ⟨(gw_in m_410 rfl), (gw_in m_68 rfl), ⟨(gw_in m_409 rfl), (gw_in m_5 rfl)⟩, by decide +kernel, by decide +kernel, by decide +kernel⟩
set_option maxHeartbeats 4000000 in
set_option maxRecDepth 100000 in
theorem kX5_isFull (l : Launch) (g : gG) (x : Nat → Nat) (N : Nat) (flt : Int32) (f : Nat → Int32) (so : Int32) (sta beh : Nat) (va : Int32)  : Met l yX5_isFull (.code yX5_isFull cX5_isFull 1 (some .boolean) :: gw) (rmN 0) (va_Pc [.ref (x 0)] (roPre g (xW g x N flt f so sta beh va))) (vp_Si (fun v => v = (b2i (decide (150 ≤ nI N))))) 0 0 (fun _ => False) := by
  refine met_start (by decide) (Nat.le_of_ble_eq_true rfl) ?_
  intro pp ee ss mm bl mt cd hC hpre ls hl
  obtain ⟨⟨hx, hb, hml, hown, hts⟩, hr, hlk, hnm⟩ := id hC
  have hl : lv_has ls 1 [(0, .ref (x 0))] := hl
  obtain ⟨hP, hK⟩ := hpre
  refine lv_aload_n hx hb dX5_isFull_0 rfl (lv_at hl 0 rfl) ?_
  refine kget hC.1 hK hP 0 rfl rfl in_5 0 (by decide) (gw_in m_208 rfl) rfl dX5_isFull_1 ?_
  refine lv_sipush (v := 150) hx hb dX5_isFull_4 rfl ?_
  refine lv_icmp_lt (tgt := 14) hx hb dX5_isFull_7 (by decide) (fun c1 => ?_) (fun c1 => ?_)
  · skip
    have c1' := Int32.not_le.mpr c1
    refine lv_iconst (v := 0) hx hb dX5_isFull_14 rfl ?_
    exact ret_roz hx hb hr hlk rfl (by first | (simp [b2i, Int32.not_le, Int32.not_lt, c1, c1']; done) | (clear hx hb hr hlk hnm hml hown hts hC hl; simp_all [b2i, Int32.not_le, Int32.not_lt])) dX5_isFull_15
  · skip
    have c1' := Int32.not_lt.mp c1
    refine lv_iconst (v := 1) hx hb dX5_isFull_10 rfl ?_
    refine lv_goto (tgt := 15) hx hb dX5_isFull_11 (by decide) ?_
    exact ret_roz hx hb hr hlk rfl (by first | (simp [b2i, Int32.not_le, Int32.not_lt, c1, c1']; done) | (clear hx hb hr hlk hnm hml hown hts hC hl; simp_all [b2i, Int32.not_le, Int32.not_lt])) dX5_isFull_15
set_option maxHeartbeats 4000000 in
set_option maxRecDepth 100000 in
theorem kX5_isLetter (l : Launch) (c : Int32) : Met l yX5_isLetter (.code yX5_isLetter cX5_isLetter 1 (some .boolean) :: gw) (rmN 0) (va_Pc [.int (c)] (fun _ => True)) (vp_Si (fun v => v = (b2i (wth c 97 122)))) 0 0 (fun _ => False) := by
  refine met_start (by decide) (Nat.le_of_ble_eq_true rfl) ?_
  intro pp ee ss mm bl mt cd hC hpre ls hl
  obtain ⟨⟨hx, hb, hml, hown, hts⟩, hr, hlk, hnm⟩ := id hC
  have hl : lv_has ls 1 [(0, .int (c))] := hl
  refine lv_bipush (v := 97) hx hb dX5_isLetter_0 rfl ?_
  refine lv_iload_n hx hb dX5_isLetter_2 rfl (lv_at hl 0 rfl) ?_
  refine lv_icmp_gt (tgt := 16) hx hb dX5_isLetter_3 (by decide) (fun c1 => ?_) (fun c1 => ?_)
  · skip
    have c1' := Int32.not_le.mpr c1
    refine lv_iconst (v := 0) hx hb dX5_isLetter_16 rfl ?_
    exact ret_roz hx hb hr hlk rfl (by first | (simp [wth, b2i, Int32.not_le, Int32.not_lt, c1, c1']; done) | (clear hx hb hr hlk hnm hml hown hts hC hl; simp_all [wth, b2i, Int32.not_le, Int32.not_lt])) dX5_isLetter_17
  · skip
    have c1' := Int32.not_lt.mp c1
    refine lv_iload_n hx hb dX5_isLetter_6 rfl (lv_at hl 0 rfl) ?_
    refine lv_bipush (v := 122) hx hb dX5_isLetter_7 rfl ?_
    refine lv_icmp_gt (tgt := 16) hx hb dX5_isLetter_9 (by decide) (fun c2 => ?_) (fun c2 => ?_)
    · skip
      have c2' := Int32.not_le.mpr c2
      refine lv_iconst (v := 0) hx hb dX5_isLetter_16 rfl ?_
      exact ret_roz hx hb hr hlk rfl (by first | (simp [wth, b2i, Int32.not_le, Int32.not_lt, c1, c1', c2, c2']; done) | (clear hx hb hr hlk hnm hml hown hts hC hl; simp_all [wth, b2i, Int32.not_le, Int32.not_lt])) dX5_isLetter_17
    · skip
      have c2' := Int32.not_lt.mp c2
      refine lv_iconst (v := 1) hx hb dX5_isLetter_12 rfl ?_
      refine lv_goto (tgt := 17) hx hb dX5_isLetter_13 (by decide) ?_
      exact ret_roz hx hb hr hlk rfl (by first | (simp [wth, b2i, Int32.not_le, Int32.not_lt, c1, c1', c2, c2']; done) | (clear hx hb hr hlk hnm hml hown hts hC hl; simp_all [wth, b2i, Int32.not_le, Int32.not_lt])) dX5_isLetter_17
set_option maxHeartbeats 4000000 in
set_option maxRecDepth 100000 in
theorem kX5_isFigure (l : Launch) (c : Int32) : Met l yX5_isFigure (.code yX5_isFigure cX5_isFigure 1 (some .boolean) :: gw) (rmN 0) (va_Pc [.int (c)] (fun _ => True)) (vp_Si (fun v => v = (b2i (wth c 48 57)))) 0 0 (fun _ => False) := by
  refine met_start (by decide) (Nat.le_of_ble_eq_true rfl) ?_
  intro pp ee ss mm bl mt cd hC hpre ls hl
  obtain ⟨⟨hx, hb, hml, hown, hts⟩, hr, hlk, hnm⟩ := id hC
  have hl : lv_has ls 1 [(0, .int (c))] := hl
  refine lv_bipush (v := 48) hx hb dX5_isFigure_0 rfl ?_
  refine lv_iload_n hx hb dX5_isFigure_2 rfl (lv_at hl 0 rfl) ?_
  refine lv_icmp_gt (tgt := 16) hx hb dX5_isFigure_3 (by decide) (fun c1 => ?_) (fun c1 => ?_)
  · skip
    have c1' := Int32.not_le.mpr c1
    refine lv_iconst (v := 0) hx hb dX5_isFigure_16 rfl ?_
    exact ret_roz hx hb hr hlk rfl (by first | (simp [wth, b2i, Int32.not_le, Int32.not_lt, c1, c1']; done) | (clear hx hb hr hlk hnm hml hown hts hC hl; simp_all [wth, b2i, Int32.not_le, Int32.not_lt])) dX5_isFigure_17
  · skip
    have c1' := Int32.not_lt.mp c1
    refine lv_iload_n hx hb dX5_isFigure_6 rfl (lv_at hl 0 rfl) ?_
    refine lv_bipush (v := 57) hx hb dX5_isFigure_7 rfl ?_
    refine lv_icmp_gt (tgt := 16) hx hb dX5_isFigure_9 (by decide) (fun c2 => ?_) (fun c2 => ?_)
    · skip
      have c2' := Int32.not_le.mpr c2
      refine lv_iconst (v := 0) hx hb dX5_isFigure_16 rfl ?_
      exact ret_roz hx hb hr hlk rfl (by first | (simp [wth, b2i, Int32.not_le, Int32.not_lt, c1, c1', c2, c2']; done) | (clear hx hb hr hlk hnm hml hown hts hC hl; simp_all [wth, b2i, Int32.not_le, Int32.not_lt])) dX5_isFigure_17
    · skip
      have c2' := Int32.not_lt.mp c2
      refine lv_iconst (v := 1) hx hb dX5_isFigure_12 rfl ?_
      refine lv_goto (tgt := 17) hx hb dX5_isFigure_13 (by decide) ?_
      exact ret_roz hx hb hr hlk rfl (by first | (simp [wth, b2i, Int32.not_le, Int32.not_lt, c1, c1', c2, c2']; done) | (clear hx hb hr hlk hnm hml hown hts hC hl; simp_all [wth, b2i, Int32.not_le, Int32.not_lt])) dX5_isFigure_17
set_option maxHeartbeats 4000000 in
set_option maxRecDepth 100000 in
theorem kX5_byteAt (l : Launch) (g : gG) (x : Nat → Nat) (N : Nat) (flt : Int32) (f : Nat → Int32) (so : Int32) (sta beh : Nat) (va : Int32) (k : Nat) (hN : N ≤ 150) (hk : k < 1000) : Met l yX5_byteAt (.code yX5_byteAt cX5_byteAt 2 (some .int) :: gw) (rmN 0) (va_Pc [.ref (x 0), .int (nI k)] (roPre g (xW g x N flt f so sta beh va))) (vp_Si (fun v => v = (bAt f N k))) 0 0 (fun _ => False) := by
  refine met_start (by decide) (Nat.le_of_ble_eq_true rfl) ?_
  intro pp ee ss mm bl mt cd hC hpre ls hl
  obtain ⟨⟨hx, hb, hml, hown, hts⟩, hr, hlk, hnm⟩ := id hC
  have hl : lv_has ls 2 [(0, .ref (x 0)), (1, .int (nI k))] := hl
  obtain ⟨hP, hK⟩ := hpre
  refine lv_iconst (v := 0) hx hb dX5_byteAt_0 rfl ?_
  refine lv_iload_n hx hb dX5_byteAt_1 rfl (lv_at hl 1 rfl) ?_
  refine lv_icmp_gt (tgt := 29) hx hb dX5_byteAt_2 (by decide) (fun c1 => ?_) (fun c1 => ?_)
  · skip
    have c1' := Int32.not_le.mpr c1
    exact absurd c1 (nI_pos (by omega))
  · skip
    have c1' := Int32.not_lt.mp c1
    refine lv_iload_n hx hb dX5_byteAt_5 rfl (lv_at hl 1 rfl) ?_
    refine lv_aload_n hx hb dX5_byteAt_6 rfl (lv_at hl 0 rfl) ?_
    refine kget hC.1 hK hP 0 rfl rfl in_5 0 (by decide) (gw_in m_208 rfl) rfl dX5_byteAt_7 ?_
    refine lv_icmp_ge (tgt := 29) hx hb dX5_byteAt_10 (by decide) (fun c2 => ?_) (fun c2 => ?_)
    · skip
      have c2' := Int32.not_lt.mpr c2
      have hkn : ¬ k < N := by rw [nI_leI (by omega) (by omega)] at c2; omega
      refine lv_iconst (v := -1) hx hb dX5_byteAt_29 rfl ?_
      exact ret_roi hx hb hr hlk (by exact (if_neg hkn).symm) dX5_byteAt_30
    · skip
      have c2' := Int32.not_le.mp c2
      have hkn : k < N := by rw [nI_leI (by omega) (by omega)] at c2; omega
      refine lv_iload_n hx hb dX5_byteAt_13 rfl (lv_at hl 1 rfl) ?_
      refine lv_sipush (v := 150) hx hb dX5_byteAt_14 rfl ?_
      refine lv_icmp_ge (tgt := 29) hx hb dX5_byteAt_17 (by decide) (fun c3 => ?_) (fun c3 => ?_)
      · skip
        have c3' := Int32.not_lt.mpr c3
        exact absurd c3 (show ¬ nI 150 ≤ nI k from nI_ge (by omega) (by omega))
      · skip
        have c3' := Int32.not_le.mp c3
        refine lv_aload_n hx hb dX5_byteAt_20 rfl (lv_at hl 0 rfl) ?_
        refine kget hC.1 hK hP 0 rfl rfl in_5 2 (by decide) (gw_in m_212 rfl) rfl dX5_byteAt_21 ?_
        refine lv_iload_n hx hb dX5_byteAt_24 rfl (lv_at hl 1 rfl) ?_
        refine kald (v := f k) hC.1 hK hP 1 rfl (vp_in_nI (by omega) (by omega)) (by rw [cl_nI (by omega)]) dX5_byteAt_25 ?_
        refine lv_goto (tgt := 30) hx hb dX5_byteAt_26 (by decide) ?_
        exact ret_roi hx hb hr hlk (by exact (if_pos hkn).symm) dX5_byteAt_30
set_option maxHeartbeats 4000000 in
set_option maxRecDepth 100000 in
theorem kX5_add (l : Launch) (g : gG) (x : Nat → Nat) (N : Nat) (flt : Int32) (f : Nat → Int32) (so : Int32) (sta beh : Nat) (va : Int32) (c : Int32) (hN : N < 150) : Met l yX5_add (.code yX5_add cX5_add 2 none :: gw) (rmN 0) (va_Pc [.ref (x 0), .int (c)] (rwPre g (xW g x N flt f so sta beh va ++ []))) (rwQv g (xW g x N flt f so sta beh va ++ []) (xW g x (N + 1) flt (upd f N c) so sta beh va ++ [])) 0 0 (dm (xW g x N flt f so sta beh va ++ [])) := by
  refine met_start (by decide) (Nat.le_of_ble_eq_true rfl) ?_
  intro pp ee ss mm bl mt cd hC hpre ls hl
  obtain ⟨⟨hx, hb, hml, hown, hts⟩, hr, hlk, hnm⟩ := id hC
  have hl : lv_has ls 2 [(0, .ref (x 0)), (1, .int (c))] := hl
  obtain ⟨hP, hK, hD⟩ := hpre
  have hS : va_S (dm (xW g x N flt f so sta beh va ++ [])) ss.heap ss.heap [] := va_S.rf
  have hD := vD_self hD
  refine lv_iconst (v := 0) hx hb dX5_add_0 rfl ?_
  refine lv_aload_n hx hb dX5_add_1 rfl (lv_at hl 0 rfl) ?_
  refine kget hC.1 hK (kP_app.mp hP).1 0 rfl rfl in_5 0 (by decide) (gw_in m_208 rfl) rfl dX5_add_2 ?_
  refine lv_icmp_gt (tgt := 35) hx hb dX5_add_5 (by decide) (fun c1 => ?_) (fun c1 => ?_)
  · skip
    have c1' := Int32.not_le.mpr c1
    exact absurd c1 (nI_pos (by omega))
  · skip
    have c1' := Int32.not_lt.mp c1
    refine lv_aload_n hx hb dX5_add_8 rfl (lv_at hl 0 rfl) ?_
    refine kget hC.1 hK (kP_app.mp hP).1 0 rfl rfl in_5 0 (by decide) (gw_in m_208 rfl) rfl dX5_add_9 ?_
    refine lv_sipush (v := 150) hx hb dX5_add_12 rfl ?_
    refine lv_icmp_ge (tgt := 35) hx hb dX5_add_15 (by decide) (fun c2 => ?_) (fun c2 => ?_)
    · skip
      have c2' := Int32.not_lt.mpr c2
      exact absurd c2 (show ¬ nI 150 ≤ nI N from nI_ge (by omega) (by omega))
    · skip
      have c2' := Int32.not_le.mp c2
      refine lv_aload_n hx hb dX5_add_18 rfl (lv_at hl 0 rfl) ?_
      refine kget hC.1 hK (kP_app.mp hP).1 0 rfl rfl in_5 2 (by decide) (gw_in m_212 rfl) rfl dX5_add_19 ?_
      refine lv_aload_n hx hb dX5_add_22 rfl (lv_at hl 0 rfl) ?_
      refine lv_dup hx hb dX5_add_23 rfl ?_
      refine kget hC.1 hK (kP_app.mp hP).1 0 rfl rfl in_5 0 (by decide) (gw_in m_208 rfl) rfl dX5_add_24 ?_
      refine lv_dup_x1 hx hb dX5_add_27 rfl rfl ?_
      refine lv_iconst (v := 1) hx hb dX5_add_28 rfl ?_
      refine lv_iadd hx hb dX5_add_29 ?_
      refine top_i (x := (nI N) + 1) (y := nI (N + 1)) (nI_1 N) ?_
      refine kput (B' := xW g x (N + 1) flt f so sta beh va) hC.1 hK hP hD hS 0 rfl rfl in_5 tyX5 tyX5_ok nmX5 0 (by decide) (gw_in m_208 rfl) rfl (ty := .int) (by decide +kernel) rfl rfl (Nat.le_of_ble_eq_true rfl) (fun _ h => h) xW_adr dX5_add_30 (fun H locs hP hD hS => ?_)
      refine lv_iload_n hx hb dX5_add_33 rfl (lv_at hl 1 rfl) ?_
      refine kast (B' := xW g x (N + 1) flt (upd f N c) so sta beh va) hC.1 hK hP hD hS 1 rfl (vp_in_nI (by omega) (by omega)) (fun _ h => by rw [cl_nI (by omega)] at h; exact h) xW_adr dX5_add_34 (fun H locs hP hD hS => ?_)
      exact ret_rwv hx hb hr hlk (hP) hS dX5_add_35
set_option maxHeartbeats 4000000 in
set_option maxRecDepth 100000 in
theorem kX5_faultHere (l : Launch) (g : gG) (x : Nat → Nat) (N : Nat) (flt : Int32) (f : Nat → Int32) (so : Int32) (sta beh : Nat) (va : Int32)  : Met l yX5_faultHere (.code yX5_faultHere cX5_faultHere 1 (some .boolean) :: gw) (rmN 0) (va_Pc [.ref (x 0)] (rwPre g (xW g x N flt f so sta beh va ++ []))) (rwQi g (xW g x N flt f so sta beh va ++ []) (xW g x N (if so = 0 then nI N else nI sta) f so sta beh va ++ []) (b2i false)) 0 0 (dm (xW g x N flt f so sta beh va ++ [])) := by
  refine met_start (by decide) (Nat.le_of_ble_eq_true rfl) ?_
  intro pp ee ss mm bl mt cd hC hpre ls hl
  obtain ⟨⟨hx, hb, hml, hown, hts⟩, hr, hlk, hnm⟩ := id hC
  have hl : lv_has ls 1 [(0, .ref (x 0))] := hl
  obtain ⟨hP, hK, hD⟩ := hpre
  have hS : va_S (dm (xW g x N flt f so sta beh va ++ [])) ss.heap ss.heap [] := va_S.rf
  have hD := vD_self hD
  refine lv_aload_n hx hb dX5_faultHere_0 rfl (lv_at hl 0 rfl) ?_
  refine lv_aload_n hx hb dX5_faultHere_1 rfl (lv_at hl 0 rfl) ?_
  refine kget hC.1 hK (kP_app.mp hP).1 0 rfl rfl in_5 3 (by decide) (gw_in m_213 rfl) rfl dX5_faultHere_2 ?_
  refine lv_if_ne (tgt := 15) hx hb dX5_faultHere_5 (by decide) (fun c1 => ?_) (fun c1 => ?_)
  · skip
    refine lv_aload_n hx hb dX5_faultHere_15 rfl (lv_at hl 0 rfl) ?_
    refine kget hC.1 hK (kP_app.mp hP).1 0 rfl rfl in_5 4 (by decide) (gw_in m_214 rfl) rfl dX5_faultHere_16 ?_
    refine kput (B' := xW g x N (nI sta) f so sta beh va) hC.1 hK hP hD hS 0 rfl rfl in_5 tyX5 tyX5_ok nmX5 1 (by decide) (gw_in m_210 rfl) rfl (ty := .int) (by decide +kernel) rfl rfl (Nat.le_of_ble_eq_true rfl) (fun _ h => h) xW_adr dX5_faultHere_19 (fun H locs hP hD hS => ?_)
    refine lv_iconst (v := 0) hx hb dX5_faultHere_22 rfl ?_
    exact ret_rwz hx hb hr hlk rfl (by rfl) (kP_eq (by rw [if_neg c1]) hP) hS dX5_faultHere_23
  · skip
    refine lv_aload_n hx hb dX5_faultHere_8 rfl (lv_at hl 0 rfl) ?_
    refine kget hC.1 hK (kP_app.mp hP).1 0 rfl rfl in_5 0 (by decide) (gw_in m_208 rfl) rfl dX5_faultHere_9 ?_
    refine lv_goto (tgt := 19) hx hb dX5_faultHere_12 (by decide) ?_
    refine kput (B' := xW g x N (nI N) f so sta beh va) hC.1 hK hP hD hS 0 rfl rfl in_5 tyX5 tyX5_ok nmX5 1 (by decide) (gw_in m_210 rfl) rfl (ty := .int) (by decide +kernel) rfl rfl (Nat.le_of_ble_eq_true rfl) (fun _ h => h) xW_adr dX5_faultHere_19 (fun H locs hP hD hS => ?_)
    refine lv_iconst (v := 0) hx hb dX5_faultHere_22 rfl ?_
    exact ret_rwz hx hb hr hlk rfl (by rfl) (kP_eq (by rw [if_pos c1]) hP) hS dX5_faultHere_23
set_option maxHeartbeats 4000000 in
set_option maxRecDepth 100000 in
theorem kX5_endWord (l : Launch) (g : gG) (x : Nat → Nat) (N : Nat) (flt : Int32) (f : Nat → Int32) (so : Int32) (sta beh : Nat) (va : Int32)  (hN : N ≤ 150) (hbeh : beh ≤ N) : Met l yX5_endWord (.code yX5_endWord cX5_endWord 1 none :: gw) (rmN 1) (va_Pc [.ref (x 0)] (rwPre g (xW g x N flt f so sta beh va ++ []))) (rwQv g (xW g x N flt f so sta beh va ++ []) (xW g x N flt f 1 sta (skF (fun k => wth (f k) 97 122) N beh) va ++ [])) 0 0 (dm (xW g x N flt f so sta beh va ++ [])) := by
  refine met_start (by decide) (Nat.le_of_ble_eq_true rfl) ?_
  intro pp ee ss mm bl mt cd hC hpre ls hl
  obtain ⟨⟨hx, hb, hml, hown, hts⟩, hr, hlk, hnm⟩ := id hC
  have hl : lv_has ls 1 [(0, .ref (x 0))] := hl
  obtain ⟨hP, hK, hD⟩ := hpre
  have hS : va_S (dm (xW g x N flt f so sta beh va ++ [])) ss.heap ss.heap [] := va_S.rf
  have hD := vD_self hD
  refine lv_aload_n hx hb dX5_endWord_0 rfl (lv_at hl 0 rfl) ?_
  refine lv_iconst (v := 1) hx hb dX5_endWord_1 rfl ?_
  refine kput (B' := xW g x N flt f 1 sta beh va) hC.1 hK hP hD hS 0 rfl rfl in_5 tyX5 tyX5_ok nmX5 3 (by decide) (gw_in m_213 rfl) rfl (ty := .int) (by decide +kernel) rfl rfl (Nat.le_of_ble_eq_true rfl) (fun _ h => h) xW_adr dX5_endWord_2 (fun H locs hP hD hS => ?_)
  have cut5 : ∀ kk : Nat, ∀ (b : Nat), N + 1 - b < kk → (hbN : b ≤ N) → (he : skF (fun k => wth (f k) 97 122) N b = skF (fun k => wth (f k) 97 122) N beh) → ∀ (H : Heap) (locs : List Loc), kP g (xW g x N flt f 1 sta b va ++ []) H → va_D (dm (xW g x N flt f so sta beh va ++ [])) (xW g x N flt f 1 sta b va ++ []) → va_S (dm (xW g x N flt f so sta beh va ++ [])) ss.heap H locs → ∀ (ls : Array Slot), lv_has ls 1 [(0, .ref (x 0))] → W pp l ee (rmN 1) ss mm ([.ref (x 0)] : List Value).toArray bl mt cd H locs 0 0 (MQ bl (rwQv g (xW g x N flt f so sta beh va ++ []) (xW g x N flt f 1 sta (skF (fun k => wth (f k) 97 122) N beh) va ++ [])) ([.ref (x 0)] : List Value).toArray ss 0 0 (dm (xW g x N flt f so sta beh va ++ []))) (F0 mm 5 ls []) := by
    intro kk
    induction kk with
    | zero => intro b hmu; exact absurd hmu (Nat.not_lt_zero _)
    | succ kk ih5 =>
      intro b hmu hbN he H locs hP hD hS ls hl
      refine lv_aload_n hx hb dX5_endWord_5 rfl (lv_at hl 0 rfl) ?_
      refine kget hC.1 hK (kP_app.mp hP).1 0 rfl rfl in_5 5 (by decide) (gw_in m_215 rfl) rfl dX5_endWord_6 ?_
      refine lv_aload_n hx hb dX5_endWord_9 rfl (lv_at hl 0 rfl) ?_
      refine kget hC.1 hK (kP_app.mp hP).1 0 rfl rfl in_5 0 (by decide) (gw_in m_208 rfl) rfl dX5_endWord_10 ?_
      refine lv_icmp_ge (tgt := 43) hx hb dX5_endWord_13 (by decide) (fun c1 => ?_) (fun c1 => ?_)
      · skip
        have c1' := Int32.not_lt.mpr c1
        have hbn : ¬ b < N := by rw [nI_leI (by omega) (by omega)] at c1; omega
        have hfin : skF (fun k => wth (f k) 97 122) N b = b := skF_stop (fun h => absurd h.1 hbn)
        exact ret_rwv hx hb hr hlk (kP_eq (by rw [← he, hfin]) hP) hS dX5_endWord_43
      · skip
        have c1' := Int32.not_le.mp c1
        have hbn : b < N := by rw [nI_leI (by omega) (by omega)] at c1; omega
        refine lv_aload_n hx hb dX5_endWord_16 rfl (lv_at hl 0 rfl) ?_
        refine lv_aload_n hx hb dX5_endWord_17 rfl (lv_at hl 0 rfl) ?_
        refine kget hC.1 hK (kP_app.mp hP).1 0 rfl rfl in_5 5 (by decide) (gw_in m_215 rfl) rfl dX5_endWord_18 ?_
        refine ro_i (run_V (As := [.int (nI b)]) (rest := []) hC.1 ckX5_byteAt (kX5_byteAt l g x N flt f 1 sta b va b hN (by omega)) (gw_in m_393 rfl) (fb_ro _ _ _) (va_recv hK.1 (kP_app.mp hP).1 (q0 := 0) rfl rfl) (fun U hU hW => ⟨by rw [hU]; exact (kP_app.mp hP).1, kK_warm hW hK⟩) ⟨rfl, rfl, Nat.le_of_ble_eq_true rfl, Nat.le_of_ble_eq_true rfl⟩ rfl hl.1 rfl (Nat.le_of_ble_eq_true rfl) dX5_endWord_21 ⟨Nat.le_of_ble_eq_true rfl, Nat.le_of_ble_eq_true rfl⟩) ?_
        refine top_i (x := bAt f N b) (y := f b) (if_pos (by omega)) ?_
        refine ro_i (run_S (As := [.int (f b)]) (rest := []) hC.1 ckX5_isLetter (kX5_isLetter l (f b)) (gw_in m_397 rfl) (fb_nil _) (fun _ _ _ => trivial) ⟨rfl, rfl, Nat.le_of_ble_eq_true rfl, Nat.le_of_ble_eq_true rfl⟩ rfl hl.1 rfl (Nat.le_of_ble_eq_true rfl) dX5_endWord_24 ⟨Nat.le_of_ble_eq_true rfl, Nat.le_of_ble_eq_true rfl⟩) ?_
        refine lv_if_eq (tgt := 43) hx hb dX5_endWord_27 (by decide) (fun c2 => ?_) (fun c2 => ?_)
        · skip
          have c2 := b2i_0 c2
          have hfin : skF (fun k => wth (f k) 97 122) N b = b := skF_stop (fun h => absurd h.2 (by show ¬ wth (f b) 97 122 = true; rw [c2]; decide))
          exact ret_rwv hx hb hr hlk (kP_eq (by rw [← he, hfin]) hP) hS dX5_endWord_43
        · skip
          have c2 := b2i_1 c2
          refine lv_aload_n hx hb dX5_endWord_30 rfl (lv_at hl 0 rfl) ?_
          refine lv_dup hx hb dX5_endWord_31 rfl ?_
          refine kget hC.1 hK (kP_app.mp hP).1 0 rfl rfl in_5 5 (by decide) (gw_in m_215 rfl) rfl dX5_endWord_32 ?_
          refine lv_iconst (v := 1) hx hb dX5_endWord_35 rfl ?_
          refine lv_iadd hx hb dX5_endWord_36 ?_
          refine top_i (x := (nI b) + 1) (y := nI (b + 1)) (nI_1 b) ?_
          refine kput (B' := xW g x N flt f 1 sta (b + 1) va) hC.1 hK hP hD hS 0 rfl rfl in_5 tyX5 tyX5_ok nmX5 5 (by decide) (gw_in m_215 rfl) rfl (ty := .int) (by decide +kernel) rfl rfl (Nat.le_of_ble_eq_true rfl) (fun _ h => h) xW_adr dX5_endWord_37 (fun H locs hP hD hS => ?_)
          refine lv_goto (tgt := 5) hx hb dX5_endWord_40 (by decide) ?_
          exact ih5 (b + 1) (by omega) (by omega) ((skF_go hbn c2).symm.trans he) _ _ hP hD hS _ (lv_sub hl [0] rfl)
  exact cut5 _ beh (Nat.lt_succ_self _) hbeh rfl _ _ hP hD hS _ (lv_sub hl [0] rfl)
set_option maxHeartbeats 4000000 in
set_option maxRecDepth 100000 in
theorem kX5_endNumber (l : Launch) (g : gG) (x : Nat → Nat) (N : Nat) (flt : Int32) (f : Nat → Int32) (so : Int32) (sta beh : Nat) (va : Int32)  (hN : N ≤ 150) (hbeh : beh ≤ N) (hsb : sta < beh) : Met l yX5_endNumber (.code yX5_endNumber cX5_endNumber 1 none :: gw) (rmN 1) (va_Pc [.ref (x 0)] (rwPre g (xW g x N flt f so sta beh va ++ []))) (rwQv g (xW g x N flt f so sta beh va ++ []) (xW g x N flt f (if (skF (fun k => wth (f k) 48 57) N beh) - sta ≤ 2 then 2 else 4) sta (skF (fun k => wth (f k) 48 57) N beh) (nuV f N sta (skF (fun k => wth (f k) 48 57) N beh)) ++ [])) 0 0 (dm (xW g x N flt f so sta beh va ++ [])) := by
  refine met_start (by decide) (Nat.le_of_ble_eq_true rfl) ?_
  intro pp ee ss mm bl mt cd hC hpre ls hl
  obtain ⟨⟨hx, hb, hml, hown, hts⟩, hr, hlk, hnm⟩ := id hC
  have hl : lv_has ls 1 [(0, .ref (x 0))] := hl
  obtain ⟨hP, hK, hD⟩ := hpre
  have hS : va_S (dm (xW g x N flt f so sta beh va ++ [])) ss.heap ss.heap [] := va_S.rf
  have hD := vD_self hD
  have cut0 : ∀ kk : Nat, ∀ (b : Nat), N + 1 - b < kk → (hbN : b ≤ N) → (he : skF (fun k => wth (f k) 48 57) N b = skF (fun k => wth (f k) 48 57) N beh) → ∀ (H : Heap) (locs : List Loc), kP g (xW g x N flt f so sta b va ++ []) H → va_D (dm (xW g x N flt f so sta beh va ++ [])) (xW g x N flt f so sta b va ++ []) → va_S (dm (xW g x N flt f so sta beh va ++ [])) ss.heap H locs → ∀ (ls : Array Slot), lv_has ls 1 [(0, .ref (x 0))] → W pp l ee (rmN 1) ss mm ([.ref (x 0)] : List Value).toArray bl mt cd H locs 0 0 (MQ bl (rwQv g (xW g x N flt f so sta beh va ++ []) (xW g x N flt f (if (skF (fun k => wth (f k) 48 57) N beh) - sta ≤ 2 then 2 else 4) sta (skF (fun k => wth (f k) 48 57) N beh) (nuV f N sta (skF (fun k => wth (f k) 48 57) N beh)) ++ [])) ([.ref (x 0)] : List Value).toArray ss 0 0 (dm (xW g x N flt f so sta beh va ++ []))) (F0 mm 0 ls []) := by
    intro kk
    induction kk with
    | zero => intro b hmu; exact absurd hmu (Nat.not_lt_zero _)
    | succ kk ih0 =>
      intro b hmu hbN he H locs hP hD hS ls hl
      refine lv_aload_n hx hb dX5_endNumber_0 rfl (lv_at hl 0 rfl) ?_
      refine kget hC.1 hK (kP_app.mp hP).1 0 rfl rfl in_5 5 (by decide) (gw_in m_215 rfl) rfl dX5_endNumber_1 ?_
      refine lv_aload_n hx hb dX5_endNumber_4 rfl (lv_at hl 0 rfl) ?_
      refine kget hC.1 hK (kP_app.mp hP).1 0 rfl rfl in_5 0 (by decide) (gw_in m_208 rfl) rfl dX5_endNumber_5 ?_
      refine lv_icmp_ge (tgt := 38) hx hb dX5_endNumber_8 (by decide) (fun c1 => ?_) (fun c1 => ?_)
      · skip
        have c1' := Int32.not_lt.mpr c1
        have hbn : ¬ b < N := by rw [nI_leI (by omega) (by omega)] at c1; omega
        have hfin : skF (fun k => wth (f k) 48 57) N b = b := skF_stop (fun h => absurd h.1 hbn)
        have hse : skF (fun k => wth (f k) 48 57) N beh = b := he.symm.trans hfin
        have hP : kP g (xW g x N flt f so sta (skF (fun k => wth (f k) 48 57) N beh) va ++ []) _ := kP_eq (by rw [hse]) hP
        have hD : va_D _ (xW g x N flt f so sta (skF (fun k => wth (f k) 48 57) N beh) va ++ []) := vD_eq (by rw [hse]) hD
        have hge : beh ≤ (skF (fun k => wth (f k) 48 57) N beh) := skF_ge
        have hle : (skF (fun k => wth (f k) 48 57) N beh) ≤ N := skF_le hbeh
        refine lv_aload_n hx hb dX5_endNumber_38 rfl (lv_at hl 0 rfl) ?_
        refine lv_aload_n hx hb dX5_endNumber_39 rfl (lv_at hl 0 rfl) ?_
        refine kget hC.1 hK (kP_app.mp hP).1 0 rfl rfl in_5 5 (by decide) (gw_in m_215 rfl) rfl dX5_endNumber_40 ?_
        refine lv_aload_n hx hb dX5_endNumber_43 rfl (lv_at hl 0 rfl) ?_
        refine kget hC.1 hK (kP_app.mp hP).1 0 rfl rfl in_5 4 (by decide) (gw_in m_214 rfl) rfl dX5_endNumber_44 ?_
        refine lv_isub hx hb dX5_endNumber_47 ?_
        refine top_i (x := (nI (skF (fun k => wth (f k) 48 57) N beh)) - (nI sta)) (y := nI ((skF (fun k => wth (f k) 48 57) N beh) - sta)) (pk_sub (by omega)) ?_
        refine lv_iconst (v := 2) hx hb dX5_endNumber_48 rfl ?_
        refine lv_icmp_gt (tgt := 56) hx hb dX5_endNumber_49 (by decide) (fun c2 => ?_) (fun c2 => ?_)
        · skip
          have c2' := Int32.not_le.mpr c2
          have h2n : ¬ (skF (fun k => wth (f k) 48 57) N beh) - sta ≤ 2 := by rw [show (2 : Int32) = nI 2 from rfl, nI_ltI (by omega) (by omega)] at c2; omega
          refine lv_iconst (v := 4) hx hb dX5_endNumber_56 rfl ?_
          refine kput (B' := xW g x N flt f 4 sta (skF (fun k => wth (f k) 48 57) N beh) va) hC.1 hK hP hD hS 0 rfl rfl in_5 tyX5 tyX5_ok nmX5 3 (by decide) (gw_in m_213 rfl) rfl (ty := .int) (by decide +kernel) rfl rfl (Nat.le_of_ble_eq_true rfl) (fun _ h => h) xW_adr dX5_endNumber_57 (fun H locs hP hD hS => ?_)
          refine lv_aload_n hx hb dX5_endNumber_60 rfl (lv_at hl 0 rfl) ?_
          refine lv_aload_n hx hb dX5_endNumber_61 rfl (lv_at hl 0 rfl) ?_
          refine lv_aload_n hx hb dX5_endNumber_62 rfl (lv_at hl 0 rfl) ?_
          refine kget hC.1 hK (kP_app.mp hP).1 0 rfl rfl in_5 5 (by decide) (gw_in m_215 rfl) rfl dX5_endNumber_63 ?_
          refine lv_iconst (v := 1) hx hb dX5_endNumber_66 rfl ?_
          refine lv_isub hx hb dX5_endNumber_67 ?_
          refine top_i (x := (nI (skF (fun k => wth (f k) 48 57) N beh)) - 1) (y := nI ((skF (fun k => wth (f k) 48 57) N beh) - 1)) (show nI (skF (fun k => wth (f k) 48 57) N beh) - nI 1 = _ from pk_sub (by omega)) ?_
          refine ro_i (run_V (As := [.int (nI ((skF (fun k => wth (f k) 48 57) N beh) - 1))]) (rest := [.ref (x 0)]) hC.1 ckX5_byteAt (kX5_byteAt l g x N flt f 4 sta (skF (fun k => wth (f k) 48 57) N beh) va ((skF (fun k => wth (f k) 48 57) N beh) - 1) hN (by omega)) (gw_in m_393 rfl) (fb_ro _ _ _) (va_recv hK.1 (kP_app.mp hP).1 (q0 := 0) rfl rfl) (fun U hU hW => ⟨by rw [hU]; exact (kP_app.mp hP).1, kK_warm hW hK⟩) ⟨rfl, rfl, Nat.le_of_ble_eq_true rfl, Nat.le_of_ble_eq_true rfl⟩ rfl hl.1 rfl (Nat.le_of_ble_eq_true rfl) dX5_endNumber_68 ⟨Nat.le_of_ble_eq_true rfl, Nat.le_of_ble_eq_true rfl⟩) ?_
          refine lv_bipush (v := 48) hx hb dX5_endNumber_71 rfl ?_
          refine lv_isub hx hb dX5_endNumber_73 ?_
          refine kput (B' := xW g x N flt f 4 sta (skF (fun k => wth (f k) 48 57) N beh) ((bAt f N ((skF (fun k => wth (f k) 48 57) N beh) - 1)) - 48)) hC.1 hK hP hD hS 0 rfl rfl in_5 tyX5 tyX5_ok nmX5 6 (by decide) (gw_in m_216 rfl) rfl (ty := .int) (by decide +kernel) rfl rfl (Nat.le_of_ble_eq_true rfl) (fun _ h => h) xW_adr dX5_endNumber_74 (fun H locs hP hD hS => ?_)
          refine lv_aload_n hx hb dX5_endNumber_77 rfl (lv_at hl 0 rfl) ?_
          refine kget hC.1 hK (kP_app.mp hP).1 0 rfl rfl in_5 5 (by decide) (gw_in m_215 rfl) rfl dX5_endNumber_78 ?_
          refine lv_aload_n hx hb dX5_endNumber_81 rfl (lv_at hl 0 rfl) ?_
          refine kget hC.1 hK (kP_app.mp hP).1 0 rfl rfl in_5 4 (by decide) (gw_in m_214 rfl) rfl dX5_endNumber_82 ?_
          refine lv_isub hx hb dX5_endNumber_85 ?_
          refine top_i (x := (nI (skF (fun k => wth (f k) 48 57) N beh)) - (nI sta)) (y := nI ((skF (fun k => wth (f k) 48 57) N beh) - sta)) (pk_sub (by omega)) ?_
          refine lv_iconst (v := 2) hx hb dX5_endNumber_86 rfl ?_
          refine lv_icmp_ne (tgt := 113) hx hb dX5_endNumber_87 (by decide) (fun c3 => ?_) (fun c3 => ?_)
          · skip
            have h2e : ¬ (skF (fun k => wth (f k) 48 57) N beh) - sta = 2 := by intro z; rw [z] at c3; exact c3 rfl
            exact ret_rwv hx hb hr hlk (kP_eq (by unfold nuV; rw [if_neg h2n, if_neg h2e]) hP) hS dX5_endNumber_113
          · skip
            have h2e : (skF (fun k => wth (f k) 48 57) N beh) - sta = 2 := by rw [show (2 : Int32) = nI 2 from rfl, nI_eq (by omega) (by omega)] at c3; exact c3
            refine lv_aload_n hx hb dX5_endNumber_90 rfl (lv_at hl 0 rfl) ?_
            refine lv_dup hx hb dX5_endNumber_91 rfl ?_
            refine kget hC.1 hK (kP_app.mp hP).1 0 rfl rfl in_5 6 (by decide) (gw_in m_216 rfl) rfl dX5_endNumber_92 ?_
            refine lv_bipush (v := 10) hx hb dX5_endNumber_95 rfl ?_
            refine lv_aload_n hx hb dX5_endNumber_97 rfl (lv_at hl 0 rfl) ?_
            refine lv_aload_n hx hb dX5_endNumber_98 rfl (lv_at hl 0 rfl) ?_
            refine kget hC.1 hK (kP_app.mp hP).1 0 rfl rfl in_5 4 (by decide) (gw_in m_214 rfl) rfl dX5_endNumber_99 ?_
            refine ro_i (run_V (As := [.int (nI sta)]) (rest := [.int (10), .int ((bAt f N ((skF (fun k => wth (f k) 48 57) N beh) - 1)) - 48), .ref (x 0)]) hC.1 ckX5_byteAt (kX5_byteAt l g x N flt f 4 sta (skF (fun k => wth (f k) 48 57) N beh) ((bAt f N ((skF (fun k => wth (f k) 48 57) N beh) - 1)) - 48) sta hN (by omega)) (gw_in m_393 rfl) (fb_ro _ _ _) (va_recv hK.1 (kP_app.mp hP).1 (q0 := 0) rfl rfl) (fun U hU hW => ⟨by rw [hU]; exact (kP_app.mp hP).1, kK_warm hW hK⟩) ⟨rfl, rfl, Nat.le_of_ble_eq_true rfl, Nat.le_of_ble_eq_true rfl⟩ rfl hl.1 rfl (Nat.le_of_ble_eq_true rfl) dX5_endNumber_102 ⟨Nat.le_of_ble_eq_true rfl, Nat.le_of_ble_eq_true rfl⟩) ?_
            refine lv_bipush (v := 48) hx hb dX5_endNumber_105 rfl ?_
            refine lv_isub hx hb dX5_endNumber_107 ?_
            refine lv_imul hx hb dX5_endNumber_108 ?_
            refine lv_iadd hx hb dX5_endNumber_109 ?_
            refine kput (B' := xW g x N flt f 4 sta (skF (fun k => wth (f k) 48 57) N beh) (((bAt f N ((skF (fun k => wth (f k) 48 57) N beh) - 1)) - 48) + (10 * ((bAt f N sta) - 48)))) hC.1 hK hP hD hS 0 rfl rfl in_5 tyX5 tyX5_ok nmX5 6 (by decide) (gw_in m_216 rfl) rfl (ty := .int) (by decide +kernel) rfl rfl (Nat.le_of_ble_eq_true rfl) (fun _ h => h) xW_adr dX5_endNumber_110 (fun H locs hP hD hS => ?_)
            exact ret_rwv hx hb hr hlk (kP_eq (by unfold nuV; rw [if_neg h2n, if_pos h2e]) hP) hS dX5_endNumber_113
        · skip
          have c2' := Int32.not_lt.mp c2
          have h2n : (skF (fun k => wth (f k) 48 57) N beh) - sta ≤ 2 := by rw [show (2 : Int32) = nI 2 from rfl, nI_ltI (by omega) (by omega)] at c2; omega
          refine lv_iconst (v := 2) hx hb dX5_endNumber_52 rfl ?_
          refine lv_goto (tgt := 57) hx hb dX5_endNumber_53 (by decide) ?_
          refine kput (B' := xW g x N flt f 2 sta (skF (fun k => wth (f k) 48 57) N beh) va) hC.1 hK hP hD hS 0 rfl rfl in_5 tyX5 tyX5_ok nmX5 3 (by decide) (gw_in m_213 rfl) rfl (ty := .int) (by decide +kernel) rfl rfl (Nat.le_of_ble_eq_true rfl) (fun _ h => h) xW_adr dX5_endNumber_57 (fun H locs hP hD hS => ?_)
          refine lv_aload_n hx hb dX5_endNumber_60 rfl (lv_at hl 0 rfl) ?_
          refine lv_aload_n hx hb dX5_endNumber_61 rfl (lv_at hl 0 rfl) ?_
          refine lv_aload_n hx hb dX5_endNumber_62 rfl (lv_at hl 0 rfl) ?_
          refine kget hC.1 hK (kP_app.mp hP).1 0 rfl rfl in_5 5 (by decide) (gw_in m_215 rfl) rfl dX5_endNumber_63 ?_
          refine lv_iconst (v := 1) hx hb dX5_endNumber_66 rfl ?_
          refine lv_isub hx hb dX5_endNumber_67 ?_
          refine top_i (x := (nI (skF (fun k => wth (f k) 48 57) N beh)) - 1) (y := nI ((skF (fun k => wth (f k) 48 57) N beh) - 1)) (show nI (skF (fun k => wth (f k) 48 57) N beh) - nI 1 = _ from pk_sub (by omega)) ?_
          refine ro_i (run_V (As := [.int (nI ((skF (fun k => wth (f k) 48 57) N beh) - 1))]) (rest := [.ref (x 0)]) hC.1 ckX5_byteAt (kX5_byteAt l g x N flt f 2 sta (skF (fun k => wth (f k) 48 57) N beh) va ((skF (fun k => wth (f k) 48 57) N beh) - 1) hN (by omega)) (gw_in m_393 rfl) (fb_ro _ _ _) (va_recv hK.1 (kP_app.mp hP).1 (q0 := 0) rfl rfl) (fun U hU hW => ⟨by rw [hU]; exact (kP_app.mp hP).1, kK_warm hW hK⟩) ⟨rfl, rfl, Nat.le_of_ble_eq_true rfl, Nat.le_of_ble_eq_true rfl⟩ rfl hl.1 rfl (Nat.le_of_ble_eq_true rfl) dX5_endNumber_68 ⟨Nat.le_of_ble_eq_true rfl, Nat.le_of_ble_eq_true rfl⟩) ?_
          refine lv_bipush (v := 48) hx hb dX5_endNumber_71 rfl ?_
          refine lv_isub hx hb dX5_endNumber_73 ?_
          refine kput (B' := xW g x N flt f 2 sta (skF (fun k => wth (f k) 48 57) N beh) ((bAt f N ((skF (fun k => wth (f k) 48 57) N beh) - 1)) - 48)) hC.1 hK hP hD hS 0 rfl rfl in_5 tyX5 tyX5_ok nmX5 6 (by decide) (gw_in m_216 rfl) rfl (ty := .int) (by decide +kernel) rfl rfl (Nat.le_of_ble_eq_true rfl) (fun _ h => h) xW_adr dX5_endNumber_74 (fun H locs hP hD hS => ?_)
          refine lv_aload_n hx hb dX5_endNumber_77 rfl (lv_at hl 0 rfl) ?_
          refine kget hC.1 hK (kP_app.mp hP).1 0 rfl rfl in_5 5 (by decide) (gw_in m_215 rfl) rfl dX5_endNumber_78 ?_
          refine lv_aload_n hx hb dX5_endNumber_81 rfl (lv_at hl 0 rfl) ?_
          refine kget hC.1 hK (kP_app.mp hP).1 0 rfl rfl in_5 4 (by decide) (gw_in m_214 rfl) rfl dX5_endNumber_82 ?_
          refine lv_isub hx hb dX5_endNumber_85 ?_
          refine top_i (x := (nI (skF (fun k => wth (f k) 48 57) N beh)) - (nI sta)) (y := nI ((skF (fun k => wth (f k) 48 57) N beh) - sta)) (pk_sub (by omega)) ?_
          refine lv_iconst (v := 2) hx hb dX5_endNumber_86 rfl ?_
          refine lv_icmp_ne (tgt := 113) hx hb dX5_endNumber_87 (by decide) (fun c4 => ?_) (fun c4 => ?_)
          · skip
            have h2e : ¬ (skF (fun k => wth (f k) 48 57) N beh) - sta = 2 := by intro z; rw [z] at c4; exact c4 rfl
            exact ret_rwv hx hb hr hlk (kP_eq (by unfold nuV; rw [if_pos h2n, if_neg h2e]) hP) hS dX5_endNumber_113
          · skip
            have h2e : (skF (fun k => wth (f k) 48 57) N beh) - sta = 2 := by rw [show (2 : Int32) = nI 2 from rfl, nI_eq (by omega) (by omega)] at c4; exact c4
            refine lv_aload_n hx hb dX5_endNumber_90 rfl (lv_at hl 0 rfl) ?_
            refine lv_dup hx hb dX5_endNumber_91 rfl ?_
            refine kget hC.1 hK (kP_app.mp hP).1 0 rfl rfl in_5 6 (by decide) (gw_in m_216 rfl) rfl dX5_endNumber_92 ?_
            refine lv_bipush (v := 10) hx hb dX5_endNumber_95 rfl ?_
            refine lv_aload_n hx hb dX5_endNumber_97 rfl (lv_at hl 0 rfl) ?_
            refine lv_aload_n hx hb dX5_endNumber_98 rfl (lv_at hl 0 rfl) ?_
            refine kget hC.1 hK (kP_app.mp hP).1 0 rfl rfl in_5 4 (by decide) (gw_in m_214 rfl) rfl dX5_endNumber_99 ?_
            refine ro_i (run_V (As := [.int (nI sta)]) (rest := [.int (10), .int ((bAt f N ((skF (fun k => wth (f k) 48 57) N beh) - 1)) - 48), .ref (x 0)]) hC.1 ckX5_byteAt (kX5_byteAt l g x N flt f 2 sta (skF (fun k => wth (f k) 48 57) N beh) ((bAt f N ((skF (fun k => wth (f k) 48 57) N beh) - 1)) - 48) sta hN (by omega)) (gw_in m_393 rfl) (fb_ro _ _ _) (va_recv hK.1 (kP_app.mp hP).1 (q0 := 0) rfl rfl) (fun U hU hW => ⟨by rw [hU]; exact (kP_app.mp hP).1, kK_warm hW hK⟩) ⟨rfl, rfl, Nat.le_of_ble_eq_true rfl, Nat.le_of_ble_eq_true rfl⟩ rfl hl.1 rfl (Nat.le_of_ble_eq_true rfl) dX5_endNumber_102 ⟨Nat.le_of_ble_eq_true rfl, Nat.le_of_ble_eq_true rfl⟩) ?_
            refine lv_bipush (v := 48) hx hb dX5_endNumber_105 rfl ?_
            refine lv_isub hx hb dX5_endNumber_107 ?_
            refine lv_imul hx hb dX5_endNumber_108 ?_
            refine lv_iadd hx hb dX5_endNumber_109 ?_
            refine kput (B' := xW g x N flt f 2 sta (skF (fun k => wth (f k) 48 57) N beh) (((bAt f N ((skF (fun k => wth (f k) 48 57) N beh) - 1)) - 48) + (10 * ((bAt f N sta) - 48)))) hC.1 hK hP hD hS 0 rfl rfl in_5 tyX5 tyX5_ok nmX5 6 (by decide) (gw_in m_216 rfl) rfl (ty := .int) (by decide +kernel) rfl rfl (Nat.le_of_ble_eq_true rfl) (fun _ h => h) xW_adr dX5_endNumber_110 (fun H locs hP hD hS => ?_)
            exact ret_rwv hx hb hr hlk (kP_eq (by unfold nuV; rw [if_pos h2n, if_pos h2e]) hP) hS dX5_endNumber_113
      · skip
        have c1' := Int32.not_le.mp c1
        have hbn : b < N := by rw [nI_leI (by omega) (by omega)] at c1; omega
        refine lv_aload_n hx hb dX5_endNumber_11 rfl (lv_at hl 0 rfl) ?_
        refine lv_aload_n hx hb dX5_endNumber_12 rfl (lv_at hl 0 rfl) ?_
        refine kget hC.1 hK (kP_app.mp hP).1 0 rfl rfl in_5 5 (by decide) (gw_in m_215 rfl) rfl dX5_endNumber_13 ?_
        refine ro_i (run_V (As := [.int (nI b)]) (rest := []) hC.1 ckX5_byteAt (kX5_byteAt l g x N flt f so sta b va b hN (by omega)) (gw_in m_393 rfl) (fb_ro _ _ _) (va_recv hK.1 (kP_app.mp hP).1 (q0 := 0) rfl rfl) (fun U hU hW => ⟨by rw [hU]; exact (kP_app.mp hP).1, kK_warm hW hK⟩) ⟨rfl, rfl, Nat.le_of_ble_eq_true rfl, Nat.le_of_ble_eq_true rfl⟩ rfl hl.1 rfl (Nat.le_of_ble_eq_true rfl) dX5_endNumber_16 ⟨Nat.le_of_ble_eq_true rfl, Nat.le_of_ble_eq_true rfl⟩) ?_
        refine top_i (x := bAt f N b) (y := f b) (if_pos (by omega)) ?_
        refine ro_i (run_S (As := [.int (f b)]) (rest := []) hC.1 ckX5_isFigure (kX5_isFigure l (f b)) (gw_in m_404 rfl) (fb_nil _) (fun _ _ _ => trivial) ⟨rfl, rfl, Nat.le_of_ble_eq_true rfl, Nat.le_of_ble_eq_true rfl⟩ rfl hl.1 rfl (Nat.le_of_ble_eq_true rfl) dX5_endNumber_19 ⟨Nat.le_of_ble_eq_true rfl, Nat.le_of_ble_eq_true rfl⟩) ?_
        refine lv_if_eq (tgt := 38) hx hb dX5_endNumber_22 (by decide) (fun c5 => ?_) (fun c5 => ?_)
        · skip
          have c5 := b2i_0 c5
          have hfin : skF (fun k => wth (f k) 48 57) N b = b := skF_stop (fun h => absurd h.2 (by show ¬ wth (f b) 48 57 = true; rw [c5]; decide))
          have hse : skF (fun k => wth (f k) 48 57) N beh = b := he.symm.trans hfin
          have hP : kP g (xW g x N flt f so sta (skF (fun k => wth (f k) 48 57) N beh) va ++ []) _ := kP_eq (by rw [hse]) hP
          have hD : va_D _ (xW g x N flt f so sta (skF (fun k => wth (f k) 48 57) N beh) va ++ []) := vD_eq (by rw [hse]) hD
          have hge : beh ≤ (skF (fun k => wth (f k) 48 57) N beh) := skF_ge
          have hle : (skF (fun k => wth (f k) 48 57) N beh) ≤ N := skF_le hbeh
          refine lv_aload_n hx hb dX5_endNumber_38 rfl (lv_at hl 0 rfl) ?_
          refine lv_aload_n hx hb dX5_endNumber_39 rfl (lv_at hl 0 rfl) ?_
          refine kget hC.1 hK (kP_app.mp hP).1 0 rfl rfl in_5 5 (by decide) (gw_in m_215 rfl) rfl dX5_endNumber_40 ?_
          refine lv_aload_n hx hb dX5_endNumber_43 rfl (lv_at hl 0 rfl) ?_
          refine kget hC.1 hK (kP_app.mp hP).1 0 rfl rfl in_5 4 (by decide) (gw_in m_214 rfl) rfl dX5_endNumber_44 ?_
          refine lv_isub hx hb dX5_endNumber_47 ?_
          refine top_i (x := (nI (skF (fun k => wth (f k) 48 57) N beh)) - (nI sta)) (y := nI ((skF (fun k => wth (f k) 48 57) N beh) - sta)) (pk_sub (by omega)) ?_
          refine lv_iconst (v := 2) hx hb dX5_endNumber_48 rfl ?_
          refine lv_icmp_gt (tgt := 56) hx hb dX5_endNumber_49 (by decide) (fun c6 => ?_) (fun c6 => ?_)
          · skip
            have c6' := Int32.not_le.mpr c6
            have h2n : ¬ (skF (fun k => wth (f k) 48 57) N beh) - sta ≤ 2 := by rw [show (2 : Int32) = nI 2 from rfl, nI_ltI (by omega) (by omega)] at c6; omega
            refine lv_iconst (v := 4) hx hb dX5_endNumber_56 rfl ?_
            refine kput (B' := xW g x N flt f 4 sta (skF (fun k => wth (f k) 48 57) N beh) va) hC.1 hK hP hD hS 0 rfl rfl in_5 tyX5 tyX5_ok nmX5 3 (by decide) (gw_in m_213 rfl) rfl (ty := .int) (by decide +kernel) rfl rfl (Nat.le_of_ble_eq_true rfl) (fun _ h => h) xW_adr dX5_endNumber_57 (fun H locs hP hD hS => ?_)
            refine lv_aload_n hx hb dX5_endNumber_60 rfl (lv_at hl 0 rfl) ?_
            refine lv_aload_n hx hb dX5_endNumber_61 rfl (lv_at hl 0 rfl) ?_
            refine lv_aload_n hx hb dX5_endNumber_62 rfl (lv_at hl 0 rfl) ?_
            refine kget hC.1 hK (kP_app.mp hP).1 0 rfl rfl in_5 5 (by decide) (gw_in m_215 rfl) rfl dX5_endNumber_63 ?_
            refine lv_iconst (v := 1) hx hb dX5_endNumber_66 rfl ?_
            refine lv_isub hx hb dX5_endNumber_67 ?_
            refine top_i (x := (nI (skF (fun k => wth (f k) 48 57) N beh)) - 1) (y := nI ((skF (fun k => wth (f k) 48 57) N beh) - 1)) (show nI (skF (fun k => wth (f k) 48 57) N beh) - nI 1 = _ from pk_sub (by omega)) ?_
            refine ro_i (run_V (As := [.int (nI ((skF (fun k => wth (f k) 48 57) N beh) - 1))]) (rest := [.ref (x 0)]) hC.1 ckX5_byteAt (kX5_byteAt l g x N flt f 4 sta (skF (fun k => wth (f k) 48 57) N beh) va ((skF (fun k => wth (f k) 48 57) N beh) - 1) hN (by omega)) (gw_in m_393 rfl) (fb_ro _ _ _) (va_recv hK.1 (kP_app.mp hP).1 (q0 := 0) rfl rfl) (fun U hU hW => ⟨by rw [hU]; exact (kP_app.mp hP).1, kK_warm hW hK⟩) ⟨rfl, rfl, Nat.le_of_ble_eq_true rfl, Nat.le_of_ble_eq_true rfl⟩ rfl hl.1 rfl (Nat.le_of_ble_eq_true rfl) dX5_endNumber_68 ⟨Nat.le_of_ble_eq_true rfl, Nat.le_of_ble_eq_true rfl⟩) ?_
            refine lv_bipush (v := 48) hx hb dX5_endNumber_71 rfl ?_
            refine lv_isub hx hb dX5_endNumber_73 ?_
            refine kput (B' := xW g x N flt f 4 sta (skF (fun k => wth (f k) 48 57) N beh) ((bAt f N ((skF (fun k => wth (f k) 48 57) N beh) - 1)) - 48)) hC.1 hK hP hD hS 0 rfl rfl in_5 tyX5 tyX5_ok nmX5 6 (by decide) (gw_in m_216 rfl) rfl (ty := .int) (by decide +kernel) rfl rfl (Nat.le_of_ble_eq_true rfl) (fun _ h => h) xW_adr dX5_endNumber_74 (fun H locs hP hD hS => ?_)
            refine lv_aload_n hx hb dX5_endNumber_77 rfl (lv_at hl 0 rfl) ?_
            refine kget hC.1 hK (kP_app.mp hP).1 0 rfl rfl in_5 5 (by decide) (gw_in m_215 rfl) rfl dX5_endNumber_78 ?_
            refine lv_aload_n hx hb dX5_endNumber_81 rfl (lv_at hl 0 rfl) ?_
            refine kget hC.1 hK (kP_app.mp hP).1 0 rfl rfl in_5 4 (by decide) (gw_in m_214 rfl) rfl dX5_endNumber_82 ?_
            refine lv_isub hx hb dX5_endNumber_85 ?_
            refine top_i (x := (nI (skF (fun k => wth (f k) 48 57) N beh)) - (nI sta)) (y := nI ((skF (fun k => wth (f k) 48 57) N beh) - sta)) (pk_sub (by omega)) ?_
            refine lv_iconst (v := 2) hx hb dX5_endNumber_86 rfl ?_
            refine lv_icmp_ne (tgt := 113) hx hb dX5_endNumber_87 (by decide) (fun c7 => ?_) (fun c7 => ?_)
            · skip
              have h2e : ¬ (skF (fun k => wth (f k) 48 57) N beh) - sta = 2 := by intro z; rw [z] at c7; exact c7 rfl
              exact ret_rwv hx hb hr hlk (kP_eq (by unfold nuV; rw [if_neg h2n, if_neg h2e]) hP) hS dX5_endNumber_113
            · skip
              have h2e : (skF (fun k => wth (f k) 48 57) N beh) - sta = 2 := by rw [show (2 : Int32) = nI 2 from rfl, nI_eq (by omega) (by omega)] at c7; exact c7
              refine lv_aload_n hx hb dX5_endNumber_90 rfl (lv_at hl 0 rfl) ?_
              refine lv_dup hx hb dX5_endNumber_91 rfl ?_
              refine kget hC.1 hK (kP_app.mp hP).1 0 rfl rfl in_5 6 (by decide) (gw_in m_216 rfl) rfl dX5_endNumber_92 ?_
              refine lv_bipush (v := 10) hx hb dX5_endNumber_95 rfl ?_
              refine lv_aload_n hx hb dX5_endNumber_97 rfl (lv_at hl 0 rfl) ?_
              refine lv_aload_n hx hb dX5_endNumber_98 rfl (lv_at hl 0 rfl) ?_
              refine kget hC.1 hK (kP_app.mp hP).1 0 rfl rfl in_5 4 (by decide) (gw_in m_214 rfl) rfl dX5_endNumber_99 ?_
              refine ro_i (run_V (As := [.int (nI sta)]) (rest := [.int (10), .int ((bAt f N ((skF (fun k => wth (f k) 48 57) N beh) - 1)) - 48), .ref (x 0)]) hC.1 ckX5_byteAt (kX5_byteAt l g x N flt f 4 sta (skF (fun k => wth (f k) 48 57) N beh) ((bAt f N ((skF (fun k => wth (f k) 48 57) N beh) - 1)) - 48) sta hN (by omega)) (gw_in m_393 rfl) (fb_ro _ _ _) (va_recv hK.1 (kP_app.mp hP).1 (q0 := 0) rfl rfl) (fun U hU hW => ⟨by rw [hU]; exact (kP_app.mp hP).1, kK_warm hW hK⟩) ⟨rfl, rfl, Nat.le_of_ble_eq_true rfl, Nat.le_of_ble_eq_true rfl⟩ rfl hl.1 rfl (Nat.le_of_ble_eq_true rfl) dX5_endNumber_102 ⟨Nat.le_of_ble_eq_true rfl, Nat.le_of_ble_eq_true rfl⟩) ?_
              refine lv_bipush (v := 48) hx hb dX5_endNumber_105 rfl ?_
              refine lv_isub hx hb dX5_endNumber_107 ?_
              refine lv_imul hx hb dX5_endNumber_108 ?_
              refine lv_iadd hx hb dX5_endNumber_109 ?_
              refine kput (B' := xW g x N flt f 4 sta (skF (fun k => wth (f k) 48 57) N beh) (((bAt f N ((skF (fun k => wth (f k) 48 57) N beh) - 1)) - 48) + (10 * ((bAt f N sta) - 48)))) hC.1 hK hP hD hS 0 rfl rfl in_5 tyX5 tyX5_ok nmX5 6 (by decide) (gw_in m_216 rfl) rfl (ty := .int) (by decide +kernel) rfl rfl (Nat.le_of_ble_eq_true rfl) (fun _ h => h) xW_adr dX5_endNumber_110 (fun H locs hP hD hS => ?_)
              exact ret_rwv hx hb hr hlk (kP_eq (by unfold nuV; rw [if_neg h2n, if_pos h2e]) hP) hS dX5_endNumber_113
          · skip
            have c6' := Int32.not_lt.mp c6
            have h2n : (skF (fun k => wth (f k) 48 57) N beh) - sta ≤ 2 := by rw [show (2 : Int32) = nI 2 from rfl, nI_ltI (by omega) (by omega)] at c6; omega
            refine lv_iconst (v := 2) hx hb dX5_endNumber_52 rfl ?_
            refine lv_goto (tgt := 57) hx hb dX5_endNumber_53 (by decide) ?_
            refine kput (B' := xW g x N flt f 2 sta (skF (fun k => wth (f k) 48 57) N beh) va) hC.1 hK hP hD hS 0 rfl rfl in_5 tyX5 tyX5_ok nmX5 3 (by decide) (gw_in m_213 rfl) rfl (ty := .int) (by decide +kernel) rfl rfl (Nat.le_of_ble_eq_true rfl) (fun _ h => h) xW_adr dX5_endNumber_57 (fun H locs hP hD hS => ?_)
            refine lv_aload_n hx hb dX5_endNumber_60 rfl (lv_at hl 0 rfl) ?_
            refine lv_aload_n hx hb dX5_endNumber_61 rfl (lv_at hl 0 rfl) ?_
            refine lv_aload_n hx hb dX5_endNumber_62 rfl (lv_at hl 0 rfl) ?_
            refine kget hC.1 hK (kP_app.mp hP).1 0 rfl rfl in_5 5 (by decide) (gw_in m_215 rfl) rfl dX5_endNumber_63 ?_
            refine lv_iconst (v := 1) hx hb dX5_endNumber_66 rfl ?_
            refine lv_isub hx hb dX5_endNumber_67 ?_
            refine top_i (x := (nI (skF (fun k => wth (f k) 48 57) N beh)) - 1) (y := nI ((skF (fun k => wth (f k) 48 57) N beh) - 1)) (show nI (skF (fun k => wth (f k) 48 57) N beh) - nI 1 = _ from pk_sub (by omega)) ?_
            refine ro_i (run_V (As := [.int (nI ((skF (fun k => wth (f k) 48 57) N beh) - 1))]) (rest := [.ref (x 0)]) hC.1 ckX5_byteAt (kX5_byteAt l g x N flt f 2 sta (skF (fun k => wth (f k) 48 57) N beh) va ((skF (fun k => wth (f k) 48 57) N beh) - 1) hN (by omega)) (gw_in m_393 rfl) (fb_ro _ _ _) (va_recv hK.1 (kP_app.mp hP).1 (q0 := 0) rfl rfl) (fun U hU hW => ⟨by rw [hU]; exact (kP_app.mp hP).1, kK_warm hW hK⟩) ⟨rfl, rfl, Nat.le_of_ble_eq_true rfl, Nat.le_of_ble_eq_true rfl⟩ rfl hl.1 rfl (Nat.le_of_ble_eq_true rfl) dX5_endNumber_68 ⟨Nat.le_of_ble_eq_true rfl, Nat.le_of_ble_eq_true rfl⟩) ?_
            refine lv_bipush (v := 48) hx hb dX5_endNumber_71 rfl ?_
            refine lv_isub hx hb dX5_endNumber_73 ?_
            refine kput (B' := xW g x N flt f 2 sta (skF (fun k => wth (f k) 48 57) N beh) ((bAt f N ((skF (fun k => wth (f k) 48 57) N beh) - 1)) - 48)) hC.1 hK hP hD hS 0 rfl rfl in_5 tyX5 tyX5_ok nmX5 6 (by decide) (gw_in m_216 rfl) rfl (ty := .int) (by decide +kernel) rfl rfl (Nat.le_of_ble_eq_true rfl) (fun _ h => h) xW_adr dX5_endNumber_74 (fun H locs hP hD hS => ?_)
            refine lv_aload_n hx hb dX5_endNumber_77 rfl (lv_at hl 0 rfl) ?_
            refine kget hC.1 hK (kP_app.mp hP).1 0 rfl rfl in_5 5 (by decide) (gw_in m_215 rfl) rfl dX5_endNumber_78 ?_
            refine lv_aload_n hx hb dX5_endNumber_81 rfl (lv_at hl 0 rfl) ?_
            refine kget hC.1 hK (kP_app.mp hP).1 0 rfl rfl in_5 4 (by decide) (gw_in m_214 rfl) rfl dX5_endNumber_82 ?_
            refine lv_isub hx hb dX5_endNumber_85 ?_
            refine top_i (x := (nI (skF (fun k => wth (f k) 48 57) N beh)) - (nI sta)) (y := nI ((skF (fun k => wth (f k) 48 57) N beh) - sta)) (pk_sub (by omega)) ?_
            refine lv_iconst (v := 2) hx hb dX5_endNumber_86 rfl ?_
            refine lv_icmp_ne (tgt := 113) hx hb dX5_endNumber_87 (by decide) (fun c8 => ?_) (fun c8 => ?_)
            · skip
              have h2e : ¬ (skF (fun k => wth (f k) 48 57) N beh) - sta = 2 := by intro z; rw [z] at c8; exact c8 rfl
              exact ret_rwv hx hb hr hlk (kP_eq (by unfold nuV; rw [if_pos h2n, if_neg h2e]) hP) hS dX5_endNumber_113
            · skip
              have h2e : (skF (fun k => wth (f k) 48 57) N beh) - sta = 2 := by rw [show (2 : Int32) = nI 2 from rfl, nI_eq (by omega) (by omega)] at c8; exact c8
              refine lv_aload_n hx hb dX5_endNumber_90 rfl (lv_at hl 0 rfl) ?_
              refine lv_dup hx hb dX5_endNumber_91 rfl ?_
              refine kget hC.1 hK (kP_app.mp hP).1 0 rfl rfl in_5 6 (by decide) (gw_in m_216 rfl) rfl dX5_endNumber_92 ?_
              refine lv_bipush (v := 10) hx hb dX5_endNumber_95 rfl ?_
              refine lv_aload_n hx hb dX5_endNumber_97 rfl (lv_at hl 0 rfl) ?_
              refine lv_aload_n hx hb dX5_endNumber_98 rfl (lv_at hl 0 rfl) ?_
              refine kget hC.1 hK (kP_app.mp hP).1 0 rfl rfl in_5 4 (by decide) (gw_in m_214 rfl) rfl dX5_endNumber_99 ?_
              refine ro_i (run_V (As := [.int (nI sta)]) (rest := [.int (10), .int ((bAt f N ((skF (fun k => wth (f k) 48 57) N beh) - 1)) - 48), .ref (x 0)]) hC.1 ckX5_byteAt (kX5_byteAt l g x N flt f 2 sta (skF (fun k => wth (f k) 48 57) N beh) ((bAt f N ((skF (fun k => wth (f k) 48 57) N beh) - 1)) - 48) sta hN (by omega)) (gw_in m_393 rfl) (fb_ro _ _ _) (va_recv hK.1 (kP_app.mp hP).1 (q0 := 0) rfl rfl) (fun U hU hW => ⟨by rw [hU]; exact (kP_app.mp hP).1, kK_warm hW hK⟩) ⟨rfl, rfl, Nat.le_of_ble_eq_true rfl, Nat.le_of_ble_eq_true rfl⟩ rfl hl.1 rfl (Nat.le_of_ble_eq_true rfl) dX5_endNumber_102 ⟨Nat.le_of_ble_eq_true rfl, Nat.le_of_ble_eq_true rfl⟩) ?_
              refine lv_bipush (v := 48) hx hb dX5_endNumber_105 rfl ?_
              refine lv_isub hx hb dX5_endNumber_107 ?_
              refine lv_imul hx hb dX5_endNumber_108 ?_
              refine lv_iadd hx hb dX5_endNumber_109 ?_
              refine kput (B' := xW g x N flt f 2 sta (skF (fun k => wth (f k) 48 57) N beh) (((bAt f N ((skF (fun k => wth (f k) 48 57) N beh) - 1)) - 48) + (10 * ((bAt f N sta) - 48)))) hC.1 hK hP hD hS 0 rfl rfl in_5 tyX5 tyX5_ok nmX5 6 (by decide) (gw_in m_216 rfl) rfl (ty := .int) (by decide +kernel) rfl rfl (Nat.le_of_ble_eq_true rfl) (fun _ h => h) xW_adr dX5_endNumber_110 (fun H locs hP hD hS => ?_)
              exact ret_rwv hx hb hr hlk (kP_eq (by unfold nuV; rw [if_pos h2n, if_pos h2e]) hP) hS dX5_endNumber_113
        · skip
          have c5 := b2i_1 c5
          refine lv_aload_n hx hb dX5_endNumber_25 rfl (lv_at hl 0 rfl) ?_
          refine lv_dup hx hb dX5_endNumber_26 rfl ?_
          refine kget hC.1 hK (kP_app.mp hP).1 0 rfl rfl in_5 5 (by decide) (gw_in m_215 rfl) rfl dX5_endNumber_27 ?_
          refine lv_iconst (v := 1) hx hb dX5_endNumber_30 rfl ?_
          refine lv_iadd hx hb dX5_endNumber_31 ?_
          refine top_i (x := (nI b) + 1) (y := nI (b + 1)) (nI_1 b) ?_
          refine kput (B' := xW g x N flt f so sta (b + 1) va) hC.1 hK hP hD hS 0 rfl rfl in_5 tyX5 tyX5_ok nmX5 5 (by decide) (gw_in m_215 rfl) rfl (ty := .int) (by decide +kernel) rfl rfl (Nat.le_of_ble_eq_true rfl) (fun _ h => h) xW_adr dX5_endNumber_32 (fun H locs hP hD hS => ?_)
          refine lv_goto (tgt := 0) hx hb dX5_endNumber_35 (by decide) ?_
          exact ih0 (b + 1) (by omega) (by omega) ((skF_go hbn c5).symm.trans he) _ _ hP hD hS _ (lv_sub hl [0] rfl)
  exact cut0 _ beh (Nat.lt_succ_self _) hbeh rfl _ _ hP hD hS _ (lv_sub hl [0] rfl)
