theorem ckX9_part : ckV yX9_part cX9_part 2 (some .long) 1 := ⟨(gw_in m_1048 rfl), (gw_in m_71 rfl), ⟨(gw_in m_1046 rfl), (gw_in m_1047 rfl)⟩, by decide +kernel, by decide +kernel, by decide +kernel⟩
theorem ckX9_clearTold : ckV yX9_clearTold cX9_clearTold 1 none 0 := ⟨(gw_in m_1059 rfl), (gw_in m_71 rfl), ⟨(gw_in m_1058 rfl), (gw_in m_31 rfl)⟩, by decide +kernel, by decide +kernel, by decide +kernel⟩
theorem ckX9_nutsOf : ckV yX9_nutsOf cX9_nutsOf 4 (some .int) 1 := ⟨(gw_in m_1220 rfl), (gw_in m_71 rfl), ⟨(gw_in m_1219 rfl), (gw_in m_48 rfl)⟩, by decide +kernel, by decide +kernel, by decide +kernel⟩
theorem ckX9_scoresOf : ckV yX9_scoresOf cX9_scoresOf 4 (some .int) 1 := ⟨(gw_in m_1224 rfl), (gw_in m_71 rfl), ⟨(gw_in m_1223 rfl), (gw_in m_49 rfl)⟩, by decide +kernel, by decide +kernel, by decide +kernel⟩
theorem ckX9_counted : ckV yX9_counted cX9_counted 2 (some .int) 1 := ⟨(gw_in m_1381 rfl), (gw_in m_71 rfl), ⟨(gw_in m_1380 rfl), (gw_in m_58 rfl)⟩, by decide +kernel, by decide +kernel, by decide +kernel⟩
set_option maxHeartbeats 4000000 in
set_option maxRecDepth 100000 in
theorem kX9_part (l : Launch) (g : gG) (o : Nat → Nat) (ab be : Int64) (lm ra ta : Nat) (ti fa : Int32) (um ua : Nat) (hh : Int64) (rf : Nat → Int32) (w : Int32) : Met l yX9_part (.code yX9_part cX9_part 2 (some .long) :: gw) (rmN 1) (va_Pc [.ref (o 0), .int (w)] (rwPre g (mO g o ab be lm ra ta ti fa um ua hh ++ (aW g (o 1) 3 rf ++ [])))) (rwQl g (mO g o ab be lm ra ta ti fa um ua hh ++ (aW g (o 1) 3 rf ++ [])) (mO g o ab be lm ra ta ti fa um ua hh ++ (aW g (o 1) 3 (if w = 0 then rf else if w = 1 then rf else upd rf 0 (rf 0 + 1)) ++ [])) (if w = 0 then ab else if w = 1 then be else (-2 : Int32).toInt64)) 0 0 (dm (mO g o ab be lm ra ta ti fa um ua hh ++ (aW g (o 1) 3 rf ++ []))) := by
  refine met_start (by decide) (Nat.le_of_ble_eq_true rfl) ?_
  intro pp ee ss mm bl mt cd hC hpre ls hl
  obtain ⟨⟨hx, hb, hml, hown, hts⟩, hr, hlk, hnm⟩ := id hC
  have hl : lv_has ls 2 [(0, .ref (o 0)), (1, .int (w))] := hl
  obtain ⟨hP, hK, hD⟩ := hpre
  have hS : va_S (dm (mO g o ab be lm ra ta ti fa um ua hh ++ (aW g (o 1) 3 rf ++ []))) ss.heap ss.heap [] := va_S.rf
  have hD := vD_self hD
  refine lv_iload_n hx hb dX9_part_0 rfl (lv_at hl 1 rfl) ?_
  refine lv_if_ne (tgt := 11) hx hb dX9_part_1 (by decide) (fun c1 => ?_) (fun c1 => ?_)
  · skip
    refine lv_iload_n hx hb dX9_part_11 rfl (lv_at hl 1 rfl) ?_
    refine lv_iconst (v := 1) hx hb dX9_part_12 rfl ?_
    refine lv_icmp_ne (tgt := 23) hx hb dX9_part_13 (by decide) (fun c2 => ?_) (fun c2 => ?_)
    · skip
      refine lv_aload_n hx hb dX9_part_23 rfl (lv_at hl 0 rfl) ?_
      refine lv_bipush (v := -2) hx hb dX9_part_24 rfl ?_
      refine rw_i (run_V (As := [.int (-2)]) (rest := []) hC.1 ckX9_bad (kX9_bad l g o ab be lm ra ta ti fa um ua hh rf (-2)) (gw_in m_1041 rfl) (fb_rw _ _ _) (va_recv hK.1 (kP_app.mp hP).1 (q0 := 0) rfl rfl) (fun U hU hW => ⟨by rw [hU]; exact (kP_app.mpr ⟨(kP_app.mp hP).1, (kP_app.mpr ⟨(kP_app.mp (kP_app.mp hP).2).1, kP_nil⟩)⟩), kK_warm hW hK, vD_sub (sbA _ (sbA _ (sb0 _))) hD⟩) ⟨rfl, rfl, Nat.le_of_ble_eq_true rfl, Nat.le_of_ble_eq_true rfl⟩ rfl hl.1 rfl (Nat.le_of_ble_eq_true rfl) dX9_part_26 ⟨Nat.le_of_ble_eq_true rfl, Nat.le_of_ble_eq_true rfl⟩) (adr_app rfl (adr_app aW_adr rfl)) (asc2 _ _ _) (ww' := mO g o ab be lm ra ta ti fa um ua hh ++ (aW g (o 1) 3 (upd rf 0 (rf 0 + 1)) ++ [])) (asc2 _ _ _) hP hD hS (fun H locs hP hD hS => ?_)
      refine lv_i2l hx hb dX9_part_29 rfl ?_
      exact ret_rwl hx hb hr hlk (by simp [c1, c2]) (kP_eq (by simp [c1, c2]) hP) hS dX9_part_30
    · skip
      refine lv_aload_n hx hb dX9_part_16 rfl (lv_at hl 0 rfl) ?_
      refine kget hC.1 hK (kP_app.mp hP).1 0 rfl rfl in_9 2 (by decide) (gw_in m_962 rfl) rfl dX9_part_17 ?_
      refine lv_goto (tgt := 30) hx hb dX9_part_20 (by decide) ?_
      exact ret_rwl hx hb hr hlk (by simp [c1, c2]) (kP_eq (by simp [c1, c2]) hP) hS dX9_part_30
  · skip
    refine lv_aload_n hx hb dX9_part_4 rfl (lv_at hl 0 rfl) ?_
    refine kget hC.1 hK (kP_app.mp hP).1 0 rfl rfl in_9 1 (by decide) (gw_in m_961 rfl) rfl dX9_part_5 ?_
    refine lv_goto (tgt := 30) hx hb dX9_part_8 (by decide) ?_
    exact ret_rwl hx hb hr hlk (by simp [c1]) (kP_eq (by simp [c1]) hP) hS dX9_part_30
set_option maxHeartbeats 4000000 in
set_option maxRecDepth 100000 in
theorem kX9_clearTold (l : Launch) (g : gG) (o : Nat → Nat) (ab be : Int64) (lm ra ta : Nat) (ti fa : Int32) (um ua : Nat) (hh : Int64) (tl : Nat → Int32)  : Met l yX9_clearTold (.code yX9_clearTold cX9_clearTold 1 none :: gw) (rmN 0) (va_Pc [.ref (o 0)] (rwPre g (mO g o ab be lm ra ta ti fa um ua hh ++ (aW g (o 5) 94 tl ++ [])))) (rwQv g (mO g o ab be lm ra ta ti fa um ua hh ++ (aW g (o 5) 94 tl ++ [])) (mO g o ab be lm ra ta ti fa 0 ua hh ++ (aW g (o 5) 94 (upd (upd (upd tl 0 0) 26 0) 63 0) ++ []))) 0 0 (dm (mO g o ab be lm ra ta ti fa um ua hh ++ (aW g (o 5) 94 tl ++ []))) := by
  refine met_start (by decide) (Nat.le_of_ble_eq_true rfl) ?_
  intro pp ee ss mm bl mt cd hC hpre ls hl
  obtain ⟨⟨hx, hb, hml, hown, hts⟩, hr, hlk, hnm⟩ := id hC
  have hl : lv_has ls 1 [(0, .ref (o 0))] := hl
  obtain ⟨hP, hK, hD⟩ := hpre
  have hS : va_S (dm (mO g o ab be lm ra ta ti fa um ua hh ++ (aW g (o 5) 94 tl ++ []))) ss.heap ss.heap [] := va_S.rf
  have hD := vD_self hD
  refine lv_aload_n hx hb dX9_clearTold_0 rfl (lv_at hl 0 rfl) ?_
  refine kget hC.1 hK (kP_app.mp hP).1 0 rfl rfl in_9 6 (by decide) (gw_in m_966 rfl) rfl dX9_clearTold_1 ?_
  refine lv_iconst (v := 0) hx hb dX9_clearTold_4 rfl ?_
  refine lv_iconst (v := 0) hx hb dX9_clearTold_5 rfl ?_
  have hP : kP g (aW g (o 5) 94 tl ++ (mO g o ab be lm ra ta ti fa um ua hh ++ [])) _ := kP_perm (pm_swap _ _ _) hP
  have hD : va_D _ (aW g (o 5) 94 tl ++ (mO g o ab be lm ra ta ti fa um ua hh ++ [])) := vD_perm (pm_swap _ _ _) hD
  refine kast (B' := aW g (o 5) 94 (upd tl 0 0)) hC.1 hK hP hD hS 0 rfl (show vp_in (nI 0) 94 from vp_in_nI (by omega) (by omega)) (fun _ h => by rw [(show cl 0 = 0 from by decide)] at h; exact h) aW_adr dX9_clearTold_6 (fun H locs hP hD hS => ?_)
  refine lv_aload_n hx hb dX9_clearTold_7 rfl (lv_at hl 0 rfl) ?_
  refine kget hC.1 hK (kP_app.mp (kP_app.mp hP).2).1 0 rfl rfl in_9 6 (by decide) (gw_in m_966 rfl) rfl dX9_clearTold_8 ?_
  refine lv_bipush (v := 26) hx hb dX9_clearTold_11 rfl ?_
  refine lv_iconst (v := 0) hx hb dX9_clearTold_13 rfl ?_
  refine kast (B' := aW g (o 5) 94 (upd (upd tl 0 0) 26 0)) hC.1 hK hP hD hS 0 rfl (show vp_in (nI 26) 94 from vp_in_nI (by omega) (by omega)) (fun _ h => by rw [(show cl 26 = 26 from by decide)] at h; exact h) aW_adr dX9_clearTold_14 (fun H locs hP hD hS => ?_)
  refine lv_aload_n hx hb dX9_clearTold_15 rfl (lv_at hl 0 rfl) ?_
  refine kget hC.1 hK (kP_app.mp (kP_app.mp hP).2).1 0 rfl rfl in_9 6 (by decide) (gw_in m_966 rfl) rfl dX9_clearTold_16 ?_
  refine lv_bipush (v := 63) hx hb dX9_clearTold_19 rfl ?_
  refine lv_iconst (v := 0) hx hb dX9_clearTold_21 rfl ?_
  refine kast (B' := aW g (o 5) 94 (upd (upd (upd tl 0 0) 26 0) 63 0)) hC.1 hK hP hD hS 0 rfl (show vp_in (nI 63) 94 from vp_in_nI (by omega) (by omega)) (fun _ h => by rw [(show cl 63 = 63 from by decide)] at h; exact h) aW_adr dX9_clearTold_22 (fun H locs hP hD hS => ?_)
  refine lv_aload_n hx hb dX9_clearTold_23 rfl (lv_at hl 0 rfl) ?_
  refine lv_iconst (v := 0) hx hb dX9_clearTold_24 rfl ?_
  have hP : kP g (mO g o ab be lm ra ta ti fa um ua hh ++ (aW g (o 5) 94 (upd (upd (upd tl 0 0) 26 0) 63 0) ++ [])) _ := kP_perm (pm_swap _ _ _) hP
  have hD : va_D _ (mO g o ab be lm ra ta ti fa um ua hh ++ (aW g (o 5) 94 (upd (upd (upd tl 0 0) 26 0) 63 0) ++ [])) := vD_perm (pm_swap _ _ _) hD
  refine kput (B' := mO g o ab be lm ra ta ti fa 0 ua hh) hC.1 hK hP hD hS 0 rfl rfl in_9 tyX9 tyX9_ok nmX9 13 (by decide) (gw_in m_973 rfl) rfl (ty := .int) (by decide +kernel) rfl rfl (Nat.le_of_ble_eq_true rfl) (fun _ h => h) mO_adr dX9_clearTold_25 (fun H locs hP hD hS => ?_)
  exact ret_rwv hx hb hr hlk (hP) hS dX9_clearTold_28
set_option maxHeartbeats 4000000 in
set_option maxRecDepth 100000 in
theorem kX9_nutsOf (l : Launch) (g : gG) (o : Nat → Nat) (ab be : Int64) (lm ra ta : Nat) (ti fa : Int32) (um ua : Nat) (hh : Int64) (r : Nat → Int32) (q : Int32) (hw : Wf r) : Met l yX9_nutsOf (.code yX9_nutsOf cX9_nutsOf 4 (some .int) :: gw) (rmN 1) (va_Pc [.ref (o 0), .int (q)] (roPre g (mO g o ab be lm ra ta ti fa um ua hh ++ (aW g (o 2) 45 r ++ [])))) (vp_Si (fun v => v = (setB (fun j => yWof r (nI j) q) (cl (r 2))))) 0 0 (fun _ => False) := by
  refine met_start (by decide) (Nat.le_of_ble_eq_true rfl) ?_
  intro pp ee ss mm bl mt cd hC hpre ls hl
  obtain ⟨⟨hx, hb, hml, hown, hts⟩, hr, hlk, hnm⟩ := id hC
  have hl : lv_has ls 4 [(0, .ref (o 0)), (1, .int (q))] := hl
  obtain ⟨hP, hK⟩ := hpre
  refine lv_iconst (v := 0) hx hb dX9_nutsOf_0 rfl ?_
  refine lv_istore_n (lv' := [(2, .int (0)), (0, .ref (o 0)), (1, .int (q))]) hx hb dX9_nutsOf_1 rfl hl (by decide) rfl (fun ls hl => ?_)
  refine lv_iconst (v := 0) hx hb dX9_nutsOf_2 rfl ?_
  refine lv_istore_n (lv' := [(3, .int (0)), (2, .int (0)), (0, .ref (o 0)), (1, .int (q))]) hx hb dX9_nutsOf_3 rfl hl (by decide) rfl (fun ls hl => ?_)
  have cut4 : ∀ kk : Nat, ∀ (n : Nat), 7 - n < kk → (hn : (n : Int) ≤ (r 2).toInt) → ∀ (ls : Array Slot), lv_has ls 4 [(0, .ref (o 0)), (1, .int (q)), (2, .int (setB (fun j => yWof r (nI j) q) n)), (3, .int (nI n))] → W pp l ee (rmN 1) ss mm ([.ref (o 0), .int (q)] : List Value).toArray bl mt cd ss.heap [] 0 0 (MQ bl (vp_Si (fun v => v = (setB (fun j => yWof r (nI j) q) (cl (r 2))))) ([.ref (o 0), .int (q)] : List Value).toArray ss 0 0 (fun _ => False)) (F0 mm 4 ls []) := by
    intro kk
    induction kk with
    | zero => intro n hmu; exact absurd hmu (Nat.not_lt_zero _)
    | succ kk ih4 =>
      intro n hmu hn ls hl
      refine lv_iload_n hx hb dX9_nutsOf_4 rfl (lv_at hl 3 rfl) ?_
      refine lv_aload_n hx hb dX9_nutsOf_5 rfl (lv_at hl 0 rfl) ?_
      refine kget hC.1 hK (kP_app.mp hP).1 0 rfl rfl in_9 3 (by decide) (gw_in m_963 rfl) rfl dX9_nutsOf_6 ?_
      refine lv_iconst (v := 2) hx hb dX9_nutsOf_9 rfl ?_
      refine kald (v := r 2) hC.1 hK (kP_app.mp (kP_app.mp hP).2).1 0 rfl (show vp_in (nI 2) 45 from vp_in_nI (by omega) (by omega)) (congrArg r (show cl 2 = 2 from by decide)) dX9_nutsOf_10 ?_
      refine lv_icmp_ge (tgt := 54) hx hb dX9_nutsOf_11 (by decide) (fun c1 => ?_) (fun c1 => ?_)
      · skip
        have c1' := Int32.not_lt.mpr c1
        have hge := lp_ge (by have := hw.n6; omega) c1
        have hend : cl (r 2) = n := by have := cl_ti (i := r 2) hw.2.2.1.1; omega
        refine lv_iload_n hx hb dX9_nutsOf_54 rfl (lv_at hl 2 rfl) ?_
        exact ret_roi hx hb hr hlk (by rw [hend]) dX9_nutsOf_55
      · skip
        have c1' := Int32.not_le.mp c1
        have hlt := lp_lt (by have := hw.n6; omega) c1
        have hni := nut_nI hlt
        refine lv_iload_n hx hb dX9_nutsOf_14 rfl (lv_at hl 2 rfl) ?_
        refine lv_aload_n hx hb dX9_nutsOf_15 rfl (lv_at hl 0 rfl) ?_
        refine kget hC.1 hK (kP_app.mp hP).1 0 rfl rfl in_9 3 (by decide) (gw_in m_963 rfl) rfl dX9_nutsOf_16 ?_
        refine lv_bipush (v := 9) hx hb dX9_nutsOf_19 rfl ?_
        refine lv_iload_n hx hb dX9_nutsOf_21 rfl (lv_at hl 3 rfl) ?_
        refine lv_iadd hx hb dX9_nutsOf_22 ?_
        refine kald (v := r (9 + cl (nI n))) hC.1 hK (kP_app.mp (kP_app.mp hP).2).1 0 rfl (ix_in (K := 9) (yNut_in hni hw.n6) (by omega) (by omega)) (congrArg r (show cl (9 + (nI n)) = 9 + cl (nI n) from ix_cl (K := 9) (yNut_in hni hw.n6) (by omega))) dX9_nutsOf_23 ?_
        refine lv_iload_n hx hb dX9_nutsOf_24 rfl (lv_at hl 1 rfl) ?_
        refine lv_icmp_ne (tgt := 45) hx hb dX9_nutsOf_25 (by decide) (fun c2 => ?_) (fun c2 => ?_)
        · skip
          refine lv_iconst (v := 0) hx hb dX9_nutsOf_45 rfl ?_
          refine lv_ior hx hb dX9_nutsOf_46 ?_
          refine top_i (x := (setB (fun j => yWof r (nI j) q) n) ||| 0) (y := setB (fun j => yWof r (nI j) q) (n + 1)) (setB_0 (p := (fun j => yWof r (nI j) q)) (show _ = false from by simp [yWof_m, hni, c1, c1', c2])) ?_
          refine lv_istore_n (lv' := [(2, .int (setB (fun j => yWof r (nI j) q) (n + 1))), (0, .ref (o 0)), (1, .int (q)), (3, .int (nI n))]) hx hb dX9_nutsOf_47 rfl hl (by decide) rfl (fun ls hl => ?_)
          refine lv_iinc (v := nI (n + 1)) (lv' := [(3, .int (nI (n + 1))), (2, .int (setB (fun j => yWof r (nI j) q) (n + 1))), (0, .ref (o 0)), (1, .int (q))]) hx hb dX9_nutsOf_48 hl (k := 3) rfl (inc_nI n) (by decide) rfl (fun ls hl => ?_)
          refine lv_goto (tgt := 4) hx hb dX9_nutsOf_51 (by decide) ?_
          exact ih4 (n + 1) (by have := hw.n6; omega) (by omega) _ (lv_sub hl [2, 3, 1, 0] rfl)
        · skip
          refine lv_aload_n hx hb dX9_nutsOf_28 rfl (lv_at hl 0 rfl) ?_
          refine kget hC.1 hK (kP_app.mp hP).1 0 rfl rfl in_9 3 (by decide) (gw_in m_963 rfl) rfl dX9_nutsOf_29 ?_
          refine lv_iload_n hx hb dX9_nutsOf_32 rfl (lv_at hl 3 rfl) ?_
          refine ro_i (run_S (As := [.ref (o 2), .int (nI n)]) (rest := [.int (setB (fun j => yWof r (nI j) q) n)]) hC.1 ckX9_isBroken (kX9_isBroken l g (o 2) r (nI n) (yNut_in hni hw.n6)) (gw_in m_1133 rfl) (fb_ro _ _ _) (fun U hU hW => ⟨by rw [hU]; exact (kP_app.mp (kP_app.mp hP).2).1, kK_warm hW hK⟩) ⟨rfl, rfl, Nat.le_of_ble_eq_true rfl, Nat.le_of_ble_eq_true rfl⟩ rfl hl.1 rfl (Nat.le_of_ble_eq_true rfl) dX9_nutsOf_33 ⟨Nat.le_of_ble_eq_true rfl, Nat.le_of_ble_eq_true rfl⟩) ?_
          refine lv_if_ne (tgt := 45) hx hb dX9_nutsOf_36 (by decide) (fun c3 => ?_) (fun c3 => ?_)
          · skip
            have c3 := b2i_1 c3
            refine lv_iconst (v := 0) hx hb dX9_nutsOf_45 rfl ?_
            refine lv_ior hx hb dX9_nutsOf_46 ?_
            refine top_i (x := (setB (fun j => yWof r (nI j) q) n) ||| 0) (y := setB (fun j => yWof r (nI j) q) (n + 1)) (setB_0 (p := (fun j => yWof r (nI j) q)) (show _ = false from by simp [yWof_m, hni, c1, c1', c2, c3])) ?_
            refine lv_istore_n (lv' := [(2, .int (setB (fun j => yWof r (nI j) q) (n + 1))), (0, .ref (o 0)), (1, .int (q)), (3, .int (nI n))]) hx hb dX9_nutsOf_47 rfl hl (by decide) rfl (fun ls hl => ?_)
            refine lv_iinc (v := nI (n + 1)) (lv' := [(3, .int (nI (n + 1))), (2, .int (setB (fun j => yWof r (nI j) q) (n + 1))), (0, .ref (o 0)), (1, .int (q))]) hx hb dX9_nutsOf_48 hl (k := 3) rfl (inc_nI n) (by decide) rfl (fun ls hl => ?_)
            refine lv_goto (tgt := 4) hx hb dX9_nutsOf_51 (by decide) ?_
            exact ih4 (n + 1) (by have := hw.n6; omega) (by omega) _ (lv_sub hl [2, 3, 1, 0] rfl)
          · skip
            have c3 := b2i_0 c3
            refine lv_iconst (v := 1) hx hb dX9_nutsOf_39 rfl ?_
            refine lv_iload_n hx hb dX9_nutsOf_40 rfl (lv_at hl 3 rfl) ?_
            refine lv_ishl hx hb dX9_nutsOf_41 ?_
            refine lv_goto (tgt := 46) hx hb dX9_nutsOf_42 (by decide) ?_
            refine lv_ior hx hb dX9_nutsOf_46 ?_
            refine top_i (x := (setB (fun j => yWof r (nI j) q) n) ||| (1 <<< ((nI n) &&& 31))) (y := setB (fun j => yWof r (nI j) q) (n + 1)) (setB_t (p := (fun j => yWof r (nI j) q)) (show _ = true from by simp [yWof_m, hni, c1, c1', c2, c3])) ?_
            refine lv_istore_n (lv' := [(2, .int (setB (fun j => yWof r (nI j) q) (n + 1))), (0, .ref (o 0)), (1, .int (q)), (3, .int (nI n))]) hx hb dX9_nutsOf_47 rfl hl (by decide) rfl (fun ls hl => ?_)
            refine lv_iinc (v := nI (n + 1)) (lv' := [(3, .int (nI (n + 1))), (2, .int (setB (fun j => yWof r (nI j) q) (n + 1))), (0, .ref (o 0)), (1, .int (q))]) hx hb dX9_nutsOf_48 hl (k := 3) rfl (inc_nI n) (by decide) rfl (fun ls hl => ?_)
            refine lv_goto (tgt := 4) hx hb dX9_nutsOf_51 (by decide) ?_
            exact ih4 (n + 1) (by have := hw.n6; omega) (by omega) _ (lv_sub hl [2, 3, 1, 0] rfl)
  exact cut4 _ 0 (Nat.lt_succ_self _) (by have := hw.2.2.1.1; exact this) _ (lv_sub hl [2, 3, 1, 0] rfl)
set_option maxHeartbeats 4000000 in
set_option maxRecDepth 100000 in
theorem kX9_scoresOf (l : Launch) (g : gG) (o : Nat → Nat) (ab be : Int64) (lm ra ta : Nat) (ti fa : Int32) (um ua : Nat) (hh : Int64) (r : Nat → Int32) (z : Int32) (hw : Wf r) : Met l yX9_scoresOf (.code yX9_scoresOf cX9_scoresOf 4 (some .int) :: gw) (rmN 1) (va_Pc [.ref (o 0), .int (z)] (roPre g (mO g o ab be lm ra ta ti fa um ua hh ++ (aW g (o 2) 45 r ++ [])))) (vp_Si (fun v => v = (sumI (fun j => hasB z (nI j)) (fun j => r (39 + j)) (cl (r 2))))) 0 0 (fun _ => False) := by
  refine met_start (by decide) (Nat.le_of_ble_eq_true rfl) ?_
  intro pp ee ss mm bl mt cd hC hpre ls hl
  obtain ⟨⟨hx, hb, hml, hown, hts⟩, hr, hlk, hnm⟩ := id hC
  have hl : lv_has ls 4 [(0, .ref (o 0)), (1, .int (z))] := hl
  obtain ⟨hP, hK⟩ := hpre
  refine lv_iconst (v := 0) hx hb dX9_scoresOf_0 rfl ?_
  refine lv_istore_n (lv' := [(2, .int (0)), (0, .ref (o 0)), (1, .int (z))]) hx hb dX9_scoresOf_1 rfl hl (by decide) rfl (fun ls hl => ?_)
  refine lv_iconst (v := 0) hx hb dX9_scoresOf_2 rfl ?_
  refine lv_istore_n (lv' := [(3, .int (0)), (2, .int (0)), (0, .ref (o 0)), (1, .int (z))]) hx hb dX9_scoresOf_3 rfl hl (by decide) rfl (fun ls hl => ?_)
  have cut4 : ∀ kk : Nat, ∀ (n : Nat), 7 - n < kk → (hn : (n : Int) ≤ (r 2).toInt) → ∀ (ls : Array Slot), lv_has ls 4 [(0, .ref (o 0)), (1, .int (z)), (2, .int (sumI (fun j => hasB z (nI j)) (fun j => r (39 + j)) n)), (3, .int (nI n))] → W pp l ee (rmN 1) ss mm ([.ref (o 0), .int (z)] : List Value).toArray bl mt cd ss.heap [] 0 0 (MQ bl (vp_Si (fun v => v = (sumI (fun j => hasB z (nI j)) (fun j => r (39 + j)) (cl (r 2))))) ([.ref (o 0), .int (z)] : List Value).toArray ss 0 0 (fun _ => False)) (F0 mm 4 ls []) := by
    intro kk
    induction kk with
    | zero => intro n hmu; exact absurd hmu (Nat.not_lt_zero _)
    | succ kk ih4 =>
      intro n hmu hn ls hl
      refine lv_iload_n hx hb dX9_scoresOf_4 rfl (lv_at hl 3 rfl) ?_
      refine lv_aload_n hx hb dX9_scoresOf_5 rfl (lv_at hl 0 rfl) ?_
      refine kget hC.1 hK (kP_app.mp hP).1 0 rfl rfl in_9 3 (by decide) (gw_in m_963 rfl) rfl dX9_scoresOf_6 ?_
      refine lv_iconst (v := 2) hx hb dX9_scoresOf_9 rfl ?_
      refine kald (v := r 2) hC.1 hK (kP_app.mp (kP_app.mp hP).2).1 0 rfl (show vp_in (nI 2) 45 from vp_in_nI (by omega) (by omega)) (congrArg r (show cl 2 = 2 from by decide)) dX9_scoresOf_10 ?_
      refine lv_icmp_ge (tgt := 44) hx hb dX9_scoresOf_11 (by decide) (fun c1 => ?_) (fun c1 => ?_)
      · skip
        have c1' := Int32.not_lt.mpr c1
        have hge := lp_ge (by have := hw.n6; omega) c1
        have hend : cl (r 2) = n := by have := cl_ti (i := r 2) hw.2.2.1.1; omega
        refine lv_iload_n hx hb dX9_scoresOf_44 rfl (lv_at hl 2 rfl) ?_
        exact ret_roi hx hb hr hlk (by rw [hend]) dX9_scoresOf_45
      · skip
        have c1' := Int32.not_le.mp c1
        have hlt := lp_lt (by have := hw.n6; omega) c1
        have hni := nut_nI hlt
        refine lv_iload_n hx hb dX9_scoresOf_14 rfl (lv_at hl 2 rfl) ?_
        refine lv_iload_n hx hb dX9_scoresOf_15 rfl (lv_at hl 1 rfl) ?_
        refine lv_iload_n hx hb dX9_scoresOf_16 rfl (lv_at hl 3 rfl) ?_
        refine ro_i (run_S (As := [.int (z), .int (nI n)]) (rest := [.int (sumI (fun j => hasB z (nI j)) (fun j => r (39 + j)) n)]) hC.1 ckX9_has (kX9_has l z (nI n)) (gw_in m_1225 rfl) (fb_nil _) (fun _ _ _ => trivial) ⟨rfl, rfl, Nat.le_of_ble_eq_true rfl, Nat.le_of_ble_eq_true rfl⟩ rfl hl.1 rfl (Nat.le_of_ble_eq_true rfl) dX9_scoresOf_17 ⟨Nat.le_of_ble_eq_true rfl, Nat.le_of_ble_eq_true rfl⟩) ?_
        refine lv_if_eq (tgt := 35) hx hb dX9_scoresOf_20 (by decide) (fun c2 => ?_) (fun c2 => ?_)
        · skip
          have c2 := b2i_0 c2
          refine lv_iconst (v := 0) hx hb dX9_scoresOf_35 rfl ?_
          refine lv_iadd hx hb dX9_scoresOf_36 ?_
          refine top_i (x := (sumI (fun j => hasB z (nI j)) (fun j => r (39 + j)) n) + 0) (y := sumI (fun j => hasB z (nI j)) (fun j => r (39 + j)) (n + 1)) (sumI_0 (p := (fun j => hasB z (nI j))) c2) ?_
          refine lv_istore_n (lv' := [(2, .int (sumI (fun j => hasB z (nI j)) (fun j => r (39 + j)) (n + 1))), (0, .ref (o 0)), (1, .int (z)), (3, .int (nI n))]) hx hb dX9_scoresOf_37 rfl hl (by decide) rfl (fun ls hl => ?_)
          refine lv_iinc (v := nI (n + 1)) (lv' := [(3, .int (nI (n + 1))), (2, .int (sumI (fun j => hasB z (nI j)) (fun j => r (39 + j)) (n + 1))), (0, .ref (o 0)), (1, .int (z))]) hx hb dX9_scoresOf_38 hl (k := 3) rfl (inc_nI n) (by decide) rfl (fun ls hl => ?_)
          refine lv_goto (tgt := 4) hx hb dX9_scoresOf_41 (by decide) ?_
          exact ih4 (n + 1) (by have := hw.n6; omega) (by omega) _ (lv_sub hl [2, 3, 1, 0] rfl)
        · skip
          have c2 := b2i_1 c2
          refine lv_aload_n hx hb dX9_scoresOf_23 rfl (lv_at hl 0 rfl) ?_
          refine kget hC.1 hK (kP_app.mp hP).1 0 rfl rfl in_9 3 (by decide) (gw_in m_963 rfl) rfl dX9_scoresOf_24 ?_
          refine lv_bipush (v := 39) hx hb dX9_scoresOf_27 rfl ?_
          refine lv_iload_n hx hb dX9_scoresOf_29 rfl (lv_at hl 3 rfl) ?_
          refine lv_iadd hx hb dX9_scoresOf_30 ?_
          refine kald (v := r (39 + n)) hC.1 hK (kP_app.mp (kP_app.mp hP).2).1 0 rfl (ix_in (K := 39) (yNut_in hni hw.n6) (by omega) (by omega)) ((congrArg r (show cl (39 + nI n) = 39 + cl (nI n) from ix_cl (K := 39) (yNut_in hni hw.n6) (by omega))).trans (by rw [cl_nI (by have := hw.n6; omega)])) dX9_scoresOf_31 ?_
          refine lv_goto (tgt := 36) hx hb dX9_scoresOf_32 (by decide) ?_
          refine lv_iadd hx hb dX9_scoresOf_36 ?_
          refine top_i (x := (sumI (fun j => hasB z (nI j)) (fun j => r (39 + j)) n) + (r (39 + n))) (y := sumI (fun j => hasB z (nI j)) (fun j => r (39 + j)) (n + 1)) (sumI_t (p := (fun j => hasB z (nI j))) (f := fun j => r (39 + j)) c2) ?_
          refine lv_istore_n (lv' := [(2, .int (sumI (fun j => hasB z (nI j)) (fun j => r (39 + j)) (n + 1))), (0, .ref (o 0)), (1, .int (z)), (3, .int (nI n))]) hx hb dX9_scoresOf_37 rfl hl (by decide) rfl (fun ls hl => ?_)
          refine lv_iinc (v := nI (n + 1)) (lv' := [(3, .int (nI (n + 1))), (2, .int (sumI (fun j => hasB z (nI j)) (fun j => r (39 + j)) (n + 1))), (0, .ref (o 0)), (1, .int (z))]) hx hb dX9_scoresOf_38 hl (k := 3) rfl (inc_nI n) (by decide) rfl (fun ls hl => ?_)
          refine lv_goto (tgt := 4) hx hb dX9_scoresOf_41 (by decide) ?_
          exact ih4 (n + 1) (by have := hw.n6; omega) (by omega) _ (lv_sub hl [2, 3, 1, 0] rfl)
  exact cut4 _ 0 (Nat.lt_succ_self _) (by have := hw.2.2.1.1; exact this) _ (lv_sub hl [2, 3, 1, 0] rfl)
set_option maxHeartbeats 4000000 in
set_option maxRecDepth 100000 in
theorem kX9_counted (l : Launch) (g : gG) (o : Nat → Nat) (ab be : Int64) (lm ra ta : Nat) (ti fa : Int32) (um ua : Nat) (hh : Int64) (r tl : Nat → Int32) (w : Int32) (hw : Wf r) : Met l yX9_counted (.code yX9_counted cX9_counted 2 (some .int) :: gw) (rmN 2) (va_Pc [.ref (o 0), .int (w)] (roPre g (mO g o ab be lm ra ta ti fa um ua hh ++ (aW g (o 2) 45 r ++ (aW g (o 5) 94 tl ++ []))))) (vp_Si (fun v => v = (cnM r tl um lm w))) 0 0 (fun _ => False) := by
  refine met_start (by decide) (Nat.le_of_ble_eq_true rfl) ?_
  intro pp ee ss mm bl mt cd hC hpre ls hl
  obtain ⟨⟨hx, hb, hml, hown, hts⟩, hr, hlk, hnm⟩ := id hC
  have hl : lv_has ls 2 [(0, .ref (o 0)), (1, .int (w))] := hl
  obtain ⟨hP, hK⟩ := hpre
  refine lv_iload_n hx hb dX9_counted_0 rfl (lv_at hl 1 rfl) ?_
  by_cases k1 : w = 0
  · skip
    refine lv_tableIn (x := w) (tgt := 56) hx hb dX9_counted_1 (by rw [k1]; decide) (by rw [k1]; decide) (by rw [k1]; rfl) (by decide) ?_
    refine lv_aload_n hx hb dX9_counted_56 rfl (lv_at hl 0 rfl) ?_
    refine kget hC.1 hK (kP_app.mp hP).1 0 rfl rfl in_9 3 (by decide) (gw_in m_963 rfl) rfl dX9_counted_57 ?_
    refine lv_iconst (v := 1) hx hb dX9_counted_60 rfl ?_
    refine kald (v := r 1) hC.1 hK (kP_app.mp (kP_app.mp hP).2).1 0 rfl (show vp_in (nI 1) 45 from vp_in_nI (by omega) (by omega)) (congrArg r (show cl 1 = 1 from by decide)) dX9_counted_61 ?_
    exact ret_roi hx hb hr hlk (by first | (simp [cnM, Int32.not_le, Int32.not_lt, k1]; done) | (clear hx hb hr hlk hnm hml hown hts hC hl; simp_all [cnM, Int32.not_le, Int32.not_lt])) dX9_counted_62
  by_cases k2 : w = 1
  · skip
    refine lv_tableIn (x := w) (tgt := 63) hx hb dX9_counted_1 (by rw [k2]; decide) (by rw [k2]; decide) (by rw [k2]; rfl) (by decide) ?_
    refine lv_aload_n hx hb dX9_counted_63 rfl (lv_at hl 0 rfl) ?_
    refine kget hC.1 hK (kP_app.mp hP).1 0 rfl rfl in_9 3 (by decide) (gw_in m_963 rfl) rfl dX9_counted_64 ?_
    refine lv_iconst (v := 2) hx hb dX9_counted_67 rfl ?_
    refine kald (v := r 2) hC.1 hK (kP_app.mp (kP_app.mp hP).2).1 0 rfl (show vp_in (nI 2) 45 from vp_in_nI (by omega) (by omega)) (congrArg r (show cl 2 = 2 from by decide)) dX9_counted_68 ?_
    exact ret_roi hx hb hr hlk (by first | (simp [cnM, Int32.not_le, Int32.not_lt, k2]; done) | (clear hx hb hr hlk hnm hml hown hts hC hl; simp_all [cnM, Int32.not_le, Int32.not_lt])) dX9_counted_69
  by_cases k3 : w = 2
  · skip
    refine lv_tableIn (x := w) (tgt := 70) hx hb dX9_counted_1 (by rw [k3]; decide) (by rw [k3]; decide) (by rw [k3]; rfl) (by decide) ?_
    refine lv_aload_n hx hb dX9_counted_70 rfl (lv_at hl 0 rfl) ?_
    refine kget hC.1 hK (kP_app.mp hP).1 0 rfl rfl in_9 3 (by decide) (gw_in m_963 rfl) rfl dX9_counted_71 ?_
    refine lv_iconst (v := 0) hx hb dX9_counted_74 rfl ?_
    refine kald (v := r 0) hC.1 hK (kP_app.mp (kP_app.mp hP).2).1 0 rfl (show vp_in (nI 0) 45 from vp_in_nI (by omega) (by omega)) (congrArg r (show cl 0 = 0 from by decide)) dX9_counted_75 ?_
    exact ret_roi hx hb hr hlk (by first | (simp [cnM, Int32.not_le, Int32.not_lt, k3]; done) | (clear hx hb hr hlk hnm hml hown hts hC hl; simp_all [cnM, Int32.not_le, Int32.not_lt])) dX9_counted_76
  by_cases k4 : w = 3
  · skip
    refine lv_tableIn (x := w) (tgt := 77) hx hb dX9_counted_1 (by rw [k4]; decide) (by rw [k4]; decide) (by rw [k4]; rfl) (by decide) ?_
    refine lv_aload_n hx hb dX9_counted_77 rfl (lv_at hl 0 rfl) ?_
    refine kget hC.1 hK (kP_app.mp hP).1 0 rfl rfl in_9 3 (by decide) (gw_in m_963 rfl) rfl dX9_counted_78 ?_
    refine ro_i (run_S (As := [.ref (o 2)]) (rest := []) hC.1 ckX9_brokenOf (kX9_brokenOf l g (o 2) r hw) (gw_in m_1363 rfl) (fb_ro _ _ _) (fun U hU hW => ⟨by rw [hU]; exact (kP_app.mp (kP_app.mp hP).2).1, kK_warm hW hK⟩) ⟨rfl, rfl, Nat.le_of_ble_eq_true rfl, Nat.le_of_ble_eq_true rfl⟩ rfl hl.1 rfl (Nat.le_of_ble_eq_true rfl) dX9_counted_81 ⟨Nat.le_of_ble_eq_true rfl, Nat.le_of_ble_eq_true rfl⟩) ?_
    exact ret_roi hx hb hr hlk (by first | (simp [cnM, Int32.not_le, Int32.not_lt, k4]; done) | (clear hx hb hr hlk hnm hml hown hts hC hl; simp_all [cnM, Int32.not_le, Int32.not_lt])) dX9_counted_84
  by_cases k5 : w = 4
  · skip
    refine lv_tableIn (x := w) (tgt := 85) hx hb dX9_counted_1 (by rw [k5]; decide) (by rw [k5]; decide) (by rw [k5]; rfl) (by decide) ?_
    refine lv_aload_n hx hb dX9_counted_85 rfl (lv_at hl 0 rfl) ?_
    refine lv_bipush (v := 33) hx hb dX9_counted_86 rfl ?_
    refine ro_i (run_V (As := [.int (33)]) (rest := []) hC.1 ckX9_sumOf (kX9_sumOf l g o ab be lm ra ta ti fa um ua hh r 33 hw (by omega)) (gw_in m_1382 rfl) (fb_ro _ _ _) (va_recv hK.1 (kP_app.mp hP).1 (q0 := 0) rfl rfl) (fun U hU hW => ⟨by rw [hU]; exact (kP_app.mpr ⟨(kP_app.mp hP).1, (kP_app.mpr ⟨(kP_app.mp (kP_app.mp hP).2).1, (kP_mem.mpr (fun _ h => absurd h List.not_mem_nil))⟩)⟩), kK_warm hW hK⟩) ⟨rfl, rfl, Nat.le_of_ble_eq_true rfl, Nat.le_of_ble_eq_true rfl⟩ rfl hl.1 rfl (Nat.le_of_ble_eq_true rfl) dX9_counted_88 ⟨Nat.le_of_ble_eq_true rfl, Nat.le_of_ble_eq_true rfl⟩) ?_
    exact ret_roi hx hb hr hlk (by first | (simp [cnM, Int32.not_le, Int32.not_lt, k5]; done) | (clear hx hb hr hlk hnm hml hown hts hC hl; simp_all [cnM, Int32.not_le, Int32.not_lt])) dX9_counted_91
  by_cases k6 : w = 5
  · skip
    refine lv_tableIn (x := w) (tgt := 92) hx hb dX9_counted_1 (by rw [k6]; decide) (by rw [k6]; decide) (by rw [k6]; rfl) (by decide) ?_
    refine lv_aload_n hx hb dX9_counted_92 rfl (lv_at hl 0 rfl) ?_
    refine lv_bipush (v := 39) hx hb dX9_counted_93 rfl ?_
    refine ro_i (run_V (As := [.int (39)]) (rest := []) hC.1 ckX9_sumOf (kX9_sumOf l g o ab be lm ra ta ti fa um ua hh r 39 hw (by omega)) (gw_in m_1382 rfl) (fb_ro _ _ _) (va_recv hK.1 (kP_app.mp hP).1 (q0 := 0) rfl rfl) (fun U hU hW => ⟨by rw [hU]; exact (kP_app.mpr ⟨(kP_app.mp hP).1, (kP_app.mpr ⟨(kP_app.mp (kP_app.mp hP).2).1, (kP_mem.mpr (fun _ h => absurd h List.not_mem_nil))⟩)⟩), kK_warm hW hK⟩) ⟨rfl, rfl, Nat.le_of_ble_eq_true rfl, Nat.le_of_ble_eq_true rfl⟩ rfl hl.1 rfl (Nat.le_of_ble_eq_true rfl) dX9_counted_95 ⟨Nat.le_of_ble_eq_true rfl, Nat.le_of_ble_eq_true rfl⟩) ?_
    exact ret_roi hx hb hr hlk (by first | (simp [cnM, Int32.not_le, Int32.not_lt, k6]; done) | (clear hx hb hr hlk hnm hml hown hts hC hl; simp_all [cnM, Int32.not_le, Int32.not_lt])) dX9_counted_98
  by_cases k7 : w = 6
  · skip
    refine lv_tableIn (x := w) (tgt := 99) hx hb dX9_counted_1 (by rw [k7]; decide) (by rw [k7]; decide) (by rw [k7]; rfl) (by decide) ?_
    refine lv_aload_n hx hb dX9_counted_99 rfl (lv_at hl 0 rfl) ?_
    refine kget hC.1 hK (kP_app.mp hP).1 0 rfl rfl in_9 6 (by decide) (gw_in m_966 rfl) rfl dX9_counted_100 ?_
    refine lv_iconst (v := 0) hx hb dX9_counted_103 rfl ?_
    refine kald (v := tl 0) hC.1 hK (kP_app.mp (kP_app.mp (kP_app.mp hP).2).2).1 0 rfl (show vp_in (nI 0) 94 from vp_in_nI (by omega) (by omega)) (congrArg tl (show cl 0 = 0 from by decide)) dX9_counted_104 ?_
    exact ret_roi hx hb hr hlk (by first | (simp [cnM, Int32.not_le, Int32.not_lt, k7]; done) | (clear hx hb hr hlk hnm hml hown hts hC hl; simp_all [cnM, Int32.not_le, Int32.not_lt])) dX9_counted_105
  by_cases k8 : w = 7
  · skip
    refine lv_tableIn (x := w) (tgt := 106) hx hb dX9_counted_1 (by rw [k8]; decide) (by rw [k8]; decide) (by rw [k8]; rfl) (by decide) ?_
    refine lv_aload_n hx hb dX9_counted_106 rfl (lv_at hl 0 rfl) ?_
    refine kget hC.1 hK (kP_app.mp hP).1 0 rfl rfl in_9 6 (by decide) (gw_in m_966 rfl) rfl dX9_counted_107 ?_
    refine lv_bipush (v := 26) hx hb dX9_counted_110 rfl ?_
    refine kald (v := tl 26) hC.1 hK (kP_app.mp (kP_app.mp (kP_app.mp hP).2).2).1 0 rfl (show vp_in (nI 26) 94 from vp_in_nI (by omega) (by omega)) (congrArg tl (show cl 26 = 26 from by decide)) dX9_counted_112 ?_
    exact ret_roi hx hb hr hlk (by first | (simp [cnM, Int32.not_le, Int32.not_lt, k8]; done) | (clear hx hb hr hlk hnm hml hown hts hC hl; simp_all [cnM, Int32.not_le, Int32.not_lt])) dX9_counted_113
  by_cases k9 : w = 8
  · skip
    refine lv_tableIn (x := w) (tgt := 114) hx hb dX9_counted_1 (by rw [k9]; decide) (by rw [k9]; decide) (by rw [k9]; rfl) (by decide) ?_
    refine lv_aload_n hx hb dX9_counted_114 rfl (lv_at hl 0 rfl) ?_
    refine kget hC.1 hK (kP_app.mp hP).1 0 rfl rfl in_9 6 (by decide) (gw_in m_966 rfl) rfl dX9_counted_115 ?_
    refine lv_bipush (v := 63) hx hb dX9_counted_118 rfl ?_
    refine kald (v := tl 63) hC.1 hK (kP_app.mp (kP_app.mp (kP_app.mp hP).2).2).1 0 rfl (show vp_in (nI 63) 94 from vp_in_nI (by omega) (by omega)) (congrArg tl (show cl 63 = 63 from by decide)) dX9_counted_120 ?_
    exact ret_roi hx hb hr hlk (by first | (simp [cnM, Int32.not_le, Int32.not_lt, k9]; done) | (clear hx hb hr hlk hnm hml hown hts hC hl; simp_all [cnM, Int32.not_le, Int32.not_lt])) dX9_counted_121
  by_cases k10 : w = 9
  · skip
    refine lv_tableIn (x := w) (tgt := 122) hx hb dX9_counted_1 (by rw [k10]; decide) (by rw [k10]; decide) (by rw [k10]; rfl) (by decide) ?_
    refine lv_aload_n hx hb dX9_counted_122 rfl (lv_at hl 0 rfl) ?_
    refine kget hC.1 hK (kP_app.mp hP).1 0 rfl rfl in_9 13 (by decide) (gw_in m_973 rfl) rfl dX9_counted_123 ?_
    exact ret_roi hx hb hr hlk (by first | (simp [cnM, Int32.not_le, Int32.not_lt, k10]; done) | (clear hx hb hr hlk hnm hml hown hts hC hl; simp_all [cnM, Int32.not_le, Int32.not_lt])) dX9_counted_126
  refine lv_tableOut (tgt := 127) hx hb dX9_counted_1 (sw_out0_9 k1 k2 k3 k4 k5 k6 k7 k8 k9 k10) (by decide) ?_
  refine lv_aload_n hx hb dX9_counted_127 rfl (lv_at hl 0 rfl) ?_
  refine kget hC.1 hK (kP_app.mp hP).1 0 rfl rfl in_9 7 (by decide) (gw_in m_967 rfl) rfl dX9_counted_128 ?_
  exact ret_roi hx hb hr hlk (by first | (simp [cnM, Int32.not_le, Int32.not_lt, k1, k2, k3, k4, k5, k6, k7, k8, k9, k10]; done) | (clear hx hb hr hlk hnm hml hown hts hC hl; simp_all [cnM, Int32.not_le, Int32.not_lt])) dX9_counted_131
