theorem ckX5_take : ckV yX5_take cX5_take 3 (some .boolean) 2 := ⟨(gw_in m_475 rfl), (gw_in m_68 rfl), ⟨(gw_in m_474 rfl), (gw_in m_9 rfl)⟩, by decide +kernel, by decide +kernel, by decide +kernel⟩
theorem kX5_faultHere_T (l : Launch) (g : gG) (x : Nat → Nat) (N : Nat) (f : Nat → Int32) (T : T5)  : Met l yX5_faultHere (.code yX5_faultHere cX5_faultHere 1 (some .boolean) :: gw) (rmN 0) (va_Pc [.ref (x 0)] (rwPre g (xT g x N f T ++ []))) (rwQi g (xT g x N f T ++ []) (xT g x N f (fhT N T) ++ []) (b2i false)) 0 0 (dm (xT g x N f T ++ [])) := kX5_faultHere l g x N T.1 f T.2.1 T.2.2.1 T.2.2.2.1 T.2.2.2.2
set_option maxHeartbeats 4000000 in
set_option maxRecDepth 100000 in
theorem kX5_take (l : Launch) (g : gG) (x : Nat → Nat) (N : Nat) (f : Nat → Int32) (T : T5) (lo hi : Int32) (hN : N ≤ 150) (hbeh : T.2.2.2.1 ≤ N) : Met l yX5_take (.code yX5_take cX5_take 3 (some .boolean) :: gw) (rmN 3) (va_Pc [.ref (x 0), .int (lo), .int (hi)] (rwPre g (xT g x N f T ++ []))) (rwQi g (xT g x N f T ++ []) (xT g x N f (tkT f N lo hi T) ++ []) (b2i (tkB f N lo hi T))) 0 0 (dm (xT g x N f T ++ [])) := by
  refine met_start (by decide) (Nat.le_of_ble_eq_true rfl) ?_
  intro pp ee ss mm bl mt cd hC hpre ls hl
  obtain ⟨⟨hx, hb, hml, hown, hts⟩, hr, hlk, hnm⟩ := id hC
  have hl : lv_has ls 3 [(0, .ref (x 0)), (1, .int (lo)), (2, .int (hi))] := hl
  obtain ⟨hP, hK, hD⟩ := hpre
  have hS : va_S (dm (xT g x N f T ++ [])) ss.heap ss.heap [] := va_S.rf
  have hD := vD_self hD
  refine lv_aload_n hx hb dX5_take_0 rfl (lv_at hl 0 rfl) ?_
  refine rw_v (run_V (As := []) (rest := []) hC.1 ckX5_nextToken (kX5_nextToken l g x N f T hN hbeh) (gw_in m_389 rfl) (fb_rw _ _ _) (va_recv hK.1 (kP_app.mp hP).1 (q0 := 0) rfl rfl) (fun U hU hW => ⟨by rw [hU]; exact (kP_app.mpr ⟨(kP_app.mp hP).1, kP_nil⟩), kK_warm hW hK, vD_sub (sbA _ (sb0 _)) hD⟩) ⟨rfl, rfl, Nat.le_of_ble_eq_true rfl, Nat.le_of_ble_eq_true rfl⟩ rfl hl.1 rfl (Nat.le_of_ble_eq_true rfl) dX5_take_1 ⟨Nat.le_of_ble_eq_true rfl, Nat.le_of_ble_eq_true rfl⟩) (adr_app xT_adr rfl) (asc1 _ _) (ww' := xT g x N f (ntT f N T) ++ []) (asc1 _ _) hP hD hS (fun H locs hP hD hS => ?_)
  refine lv_aload_n hx hb dX5_take_4 rfl (lv_at hl 0 rfl) ?_
  refine kget hC.1 hK (kP_app.mp hP).1 0 rfl rfl in_5 3 (by decide) (gw_in m_213 rfl) rfl dX5_take_5 ?_
  refine lv_iconst (v := 2) hx hb dX5_take_8 rfl ?_
  refine lv_icmp_ne (tgt := 24) hx hb dX5_take_9 (by decide) (fun c1 => ?_) (fun c1 => ?_)
  · skip
    refine lv_aload_n hx hb dX5_take_24 rfl (lv_at hl 0 rfl) ?_
    refine rw_i (run_V (As := []) (rest := []) hC.1 ckX5_faultHere (kX5_faultHere_T l g x N f (ntT f N T)) (gw_in m_477 rfl) (fb_rw _ _ _) (va_recv hK.1 (kP_app.mp hP).1 (q0 := 0) rfl rfl) (fun U hU hW => ⟨by rw [hU]; exact (kP_app.mpr ⟨(kP_app.mp hP).1, kP_nil⟩), kK_warm hW hK, vD_sub (sbA _ (sb0 _)) hD⟩) ⟨rfl, rfl, Nat.le_of_ble_eq_true rfl, Nat.le_of_ble_eq_true rfl⟩ rfl hl.1 rfl (Nat.le_of_ble_eq_true rfl) dX5_take_25 ⟨Nat.le_of_ble_eq_true rfl, Nat.le_of_ble_eq_true rfl⟩) (adr_app xT_adr rfl) (asc1 _ _) (ww' := xT g x N f (fhT N (ntT f N T)) ++ []) (asc1 _ _) hP hD hS (fun H locs hP hD hS => ?_)
    refine top_i (x := b2i false) (y := 0) rfl ?_
    refine lv_if_eq (tgt := 35) hx hb dX5_take_28 (by decide) (fun c2 => ?_) (fun c2 => ?_)
    · skip
      refine lv_iconst (v := 0) hx hb dX5_take_35 rfl ?_
      exact ret_rwz hx hb hr hlk rfl (by simp [tkB, b2i, c1]) (kP_eq (by unfold tkT; rw [if_neg (by simp [tkB, c1])]) hP) hS dX5_take_36
    · skip
      exact absurd c2 (by decide)
  · skip
    refine lv_aload_n hx hb dX5_take_12 rfl (lv_at hl 0 rfl) ?_
    refine kget hC.1 hK (kP_app.mp hP).1 0 rfl rfl in_5 6 (by decide) (gw_in m_216 rfl) rfl dX5_take_13 ?_
    refine lv_iload_n hx hb dX5_take_16 rfl (lv_at hl 1 rfl) ?_
    refine lv_iload_n hx hb dX5_take_17 rfl (lv_at hl 2 rfl) ?_
    refine ro_i (run_SN (As := [.int ((ntT f N T).2.2.2.2), .int (lo), .int (hi)]) (rest := []) hC.1 ckX8_within (kX8_within l (ntT f N T).2.2.2.2 lo hi) (hK.2.2 _ _ _ _ m_476) (fb_nil _) (fun _ _ _ => trivial) ⟨rfl, rfl, Nat.le_of_ble_eq_true rfl, Nat.le_of_ble_eq_true rfl⟩ rfl hl.1 rfl (Nat.le_of_ble_eq_true rfl) dX5_take_18 ⟨Nat.le_of_ble_eq_true rfl, Nat.le_of_ble_eq_true rfl⟩) ?_
    refine lv_if_ne (tgt := 31) hx hb dX5_take_21 (by decide) (fun c3 => ?_) (fun c3 => ?_)
    · skip
      have c3 := b2i_1 c3
      refine lv_iconst (v := 1) hx hb dX5_take_31 rfl ?_
      refine lv_goto (tgt := 36) hx hb dX5_take_32 (by decide) ?_
      exact ret_rwz hx hb hr hlk rfl (by simp [tkB, b2i, c1, c3]) (kP_eq (by unfold tkT; rw [if_pos (by simp [tkB, c1, c3])]) hP) hS dX5_take_36
    · skip
      have c3 := b2i_0 c3
      refine lv_aload_n hx hb dX5_take_24 rfl (lv_at hl 0 rfl) ?_
      refine rw_i (run_V (As := []) (rest := []) hC.1 ckX5_faultHere (kX5_faultHere_T l g x N f (ntT f N T)) (gw_in m_477 rfl) (fb_rw _ _ _) (va_recv hK.1 (kP_app.mp hP).1 (q0 := 0) rfl rfl) (fun U hU hW => ⟨by rw [hU]; exact (kP_app.mpr ⟨(kP_app.mp hP).1, kP_nil⟩), kK_warm hW hK, vD_sub (sbA _ (sb0 _)) hD⟩) ⟨rfl, rfl, Nat.le_of_ble_eq_true rfl, Nat.le_of_ble_eq_true rfl⟩ rfl hl.1 rfl (Nat.le_of_ble_eq_true rfl) dX5_take_25 ⟨Nat.le_of_ble_eq_true rfl, Nat.le_of_ble_eq_true rfl⟩) (adr_app xT_adr rfl) (asc1 _ _) (ww' := xT g x N f (fhT N (ntT f N T)) ++ []) (asc1 _ _) hP hD hS (fun H locs hP hD hS => ?_)
      refine top_i (x := b2i false) (y := 0) rfl ?_
      refine lv_if_eq (tgt := 35) hx hb dX5_take_28 (by decide) (fun c4 => ?_) (fun c4 => ?_)
      · skip
        refine lv_iconst (v := 0) hx hb dX5_take_35 rfl ?_
        exact ret_rwz hx hb hr hlk rfl (by simp [tkB, b2i, c1, c3]) (kP_eq (by unfold tkT; rw [if_neg (by simp [tkB, c1, c3])]) hP) hS dX5_take_36
      · skip
        exact absurd c4 (by decide)
