theorem ckX4_isFull : ckV yX4_isFull cX4_isFull 1 (some .boolean) 0 := ⟨(gw_in m_745 rfl), (gw_in m_66 rfl), ⟨(gw_in m_743 rfl), (gw_in m_744 rfl)⟩, by decide +kernel, by decide +kernel, by decide +kernel⟩
theorem ckX4_at : ckV yX4_at cX4_at 4 (some .int) 2 := ⟨(gw_in m_768 rfl), (gw_in m_66 rfl), ⟨(gw_in m_766 rfl), (gw_in m_767 rfl)⟩, by decide +kernel, by decide +kernel, by decide +kernel⟩
theorem ckX4_copyOf : ckV yX4_copyOf cX4_copyOf 2 none 1 := ⟨(gw_in m_912 rfl), (gw_in m_66 rfl), ⟨(gw_in m_910 rfl), (gw_in m_911 rfl)⟩, by decide +kernel, by decide +kernel, by decide +kernel⟩
theorem ckX4_add : ckV yX4_add cX4_add 8 (some .int) 6 := ⟨(gw_in m_749 rfl), (gw_in m_66 rfl), ⟨(gw_in m_747 rfl), (gw_in m_748 rfl)⟩, by decide +kernel, by decide +kernel, by decide +kernel⟩
theorem ckX4_foldInto : ckV yX4_foldInto cX4_foldInto 6 (some .long) 2 := ⟨(gw_in m_951 rfl), (gw_in m_66 rfl), ⟨(gw_in m_949 rfl), (gw_in m_950 rfl)⟩, by decide +kernel, by decide +kernel, by decide +kernel⟩
set_option maxHeartbeats 4000000 in
set_option maxRecDepth 100000 in
theorem kX4_isFull (l : Launch) (g : gG) (a : Nat → Nat) (N : Nat) (lim : Int32) (f : Nat → Int32)  : Met l yX4_isFull (.code yX4_isFull cX4_isFull 1 (some .boolean) :: gw) (rmN 0) (va_Pc [.ref (a 0)] (roPre g (rW g a N lim f))) (vp_Si (fun v => v = (b2i (decide (lim ≤ nI N))))) 0 0 (fun _ => False) := by
  refine met_start (by decide) (Nat.le_of_ble_eq_true rfl) ?_
  intro pp ee ss mm bl mt cd hC hpre ls hl
  obtain ⟨⟨hx, hb, hml, hown, hts⟩, hr, hlk, hnm⟩ := id hC
  have hl : lv_has ls 1 [(0, .ref (a 0))] := hl
  obtain ⟨hP, hK⟩ := hpre
  refine lv_aload_n hx hb dX4_isFull_0 rfl (lv_at hl 0 rfl) ?_
  refine kget hC.1 hK hP 0 rfl rfl in_4 0 (by decide) (gw_in m_166 rfl) rfl dX4_isFull_1 ?_
  refine lv_aload_n hx hb dX4_isFull_4 rfl (lv_at hl 0 rfl) ?_
  refine kget hC.1 hK hP 0 rfl rfl in_4 1 (by decide) (gw_in m_170 rfl) rfl dX4_isFull_5 ?_
  refine lv_icmp_lt (tgt := 15) hx hb dX4_isFull_8 (by decide) (fun c1 => ?_) (fun c1 => ?_)
  · skip
    have c1' := Int32.not_le.mpr c1
    refine lv_iconst (v := 0) hx hb dX4_isFull_15 rfl ?_
    exact ret_roz hx hb hr hlk rfl (by first | (simp [b2i, Int32.not_le, Int32.not_lt, c1, c1']; done) | (clear hx hb hr hlk hnm hml hown hts hC hl; simp_all [b2i, Int32.not_le, Int32.not_lt])) dX4_isFull_16
  · skip
    have c1' := Int32.not_lt.mp c1
    refine lv_iconst (v := 1) hx hb dX4_isFull_11 rfl ?_
    refine lv_goto (tgt := 16) hx hb dX4_isFull_12 (by decide) ?_
    exact ret_roz hx hb hr hlk rfl (by first | (simp [b2i, Int32.not_le, Int32.not_lt, c1, c1']; done) | (clear hx hb hr hlk hnm hml hown hts hC hl; simp_all [b2i, Int32.not_le, Int32.not_lt])) dX4_isFull_16
set_option maxHeartbeats 4000000 in
set_option maxRecDepth 100000 in
theorem kX4_at (l : Launch) (g : gG) (a : Nat → Nat) (N : Nat) (lim : Int32) (f : Nat → Int32) (i j : Int32) : Met l yX4_at (.code yX4_at cX4_at 4 (some .int) :: gw) (rmN 1) (va_Pc [.ref (a 0), .int (i), .int (j)] (roPre g (rW g a N lim f))) (vp_Si (fun v => v = (atF f i j))) 0 0 (fun _ => False) := by
  refine met_start (by decide) (Nat.le_of_ble_eq_true rfl) ?_
  intro pp ee ss mm bl mt cd hC hpre ls hl
  obtain ⟨⟨hx, hb, hml, hown, hts⟩, hr, hlk, hnm⟩ := id hC
  have hl : lv_has ls 4 [(0, .ref (a 0)), (1, .int (i)), (2, .int (j))] := hl
  obtain ⟨hP, hK⟩ := hpre
  refine lv_iload_n hx hb dX4_at_0 rfl (lv_at hl 1 rfl) ?_
  refine lv_iconst (v := 0) hx hb dX4_at_1 rfl ?_
  refine lv_iconst (v := 5) hx hb dX4_at_2 rfl ?_
  refine ro_i (run_SN (As := [.int (i), .int (0), .int (5)]) (rest := []) hC.1 ckX8_within (kX8_within l i 0 5) (hK.2.2 _ _ _ _ m_769) (fb_nil _) (fun _ _ _ => trivial) ⟨rfl, rfl, Nat.le_of_ble_eq_true rfl, Nat.le_of_ble_eq_true rfl⟩ rfl hl.1 rfl (Nat.le_of_ble_eq_true rfl) dX4_at_3 ⟨Nat.le_of_ble_eq_true rfl, Nat.le_of_ble_eq_true rfl⟩) ?_
  refine lv_if_eq (tgt := 22) hx hb dX4_at_6 (by decide) (fun c1 => ?_) (fun c1 => ?_)
  · skip
    have c1 := b2i_0 c1
    refine lv_iconst (v := 0) hx hb dX4_at_22 rfl ?_
    refine lv_istore_n (lv' := [(3, .int (0)), (0, .ref (a 0)), (1, .int (i)), (2, .int (j))]) hx hb dX4_at_23 rfl hl (by decide) rfl (fun ls hl => ?_)
    refine lv_iload_n hx hb dX4_at_24 rfl (lv_at hl 0 rfl) ?_
    refine lv_if_eq (tgt := 42) hx hb dX4_at_25 (by decide) (fun c2 => ?_) (fun c2 => ?_)
    · skip
      refine lv_iconst (v := 0) hx hb dX4_at_42 rfl ?_
      exact ret_roi hx hb hr hlk (by first | (simp [atF, Int32.not_le, Int32.not_lt, c1]; done) | (clear hx hb hr hlk hnm hml hown hts hC hl; simp_all [atF, Int32.not_le, Int32.not_lt])) dX4_at_43
    · skip
      exact absurd c2 (by decide)
  · skip
    have c1 := b2i_1 c1
    refine lv_iload_n hx hb dX4_at_9 rfl (lv_at hl 2 rfl) ?_
    refine lv_iconst (v := 0) hx hb dX4_at_10 rfl ?_
    refine lv_iconst (v := 5) hx hb dX4_at_11 rfl ?_
    refine ro_i (run_SN (As := [.int (j), .int (0), .int (5)]) (rest := []) hC.1 ckX8_within (kX8_within l j 0 5) (hK.2.2 _ _ _ _ m_769) (fb_nil _) (fun _ _ _ => trivial) ⟨rfl, rfl, Nat.le_of_ble_eq_true rfl, Nat.le_of_ble_eq_true rfl⟩ rfl hl.1 rfl (Nat.le_of_ble_eq_true rfl) dX4_at_12 ⟨Nat.le_of_ble_eq_true rfl, Nat.le_of_ble_eq_true rfl⟩) ?_
    refine lv_if_eq (tgt := 22) hx hb dX4_at_15 (by decide) (fun c3 => ?_) (fun c3 => ?_)
    · skip
      have c3 := b2i_0 c3
      refine lv_iconst (v := 0) hx hb dX4_at_22 rfl ?_
      refine lv_istore_n (lv' := [(3, .int (0)), (0, .ref (a 0)), (1, .int (i)), (2, .int (j))]) hx hb dX4_at_23 rfl hl (by decide) rfl (fun ls hl => ?_)
      refine lv_iload_n hx hb dX4_at_24 rfl (lv_at hl 0 rfl) ?_
      refine lv_if_eq (tgt := 42) hx hb dX4_at_25 (by decide) (fun c4 => ?_) (fun c4 => ?_)
      · skip
        refine lv_iconst (v := 0) hx hb dX4_at_42 rfl ?_
        exact ret_roi hx hb hr hlk (by first | (simp [atF, Int32.not_le, Int32.not_lt, c1, c3]; done) | (clear hx hb hr hlk hnm hml hown hts hC hl; simp_all [atF, Int32.not_le, Int32.not_lt])) dX4_at_43
      · skip
        exact absurd c4 (by decide)
    · skip
      have c3 := b2i_1 c3
      refine lv_iconst (v := 1) hx hb dX4_at_18 rfl ?_
      refine lv_goto (tgt := 23) hx hb dX4_at_19 (by decide) ?_
      refine lv_istore_n (lv' := [(3, .int (1)), (0, .ref (a 0)), (1, .int (i)), (2, .int (j))]) hx hb dX4_at_23 rfl hl (by decide) rfl (fun ls hl => ?_)
      refine lv_iload_n hx hb dX4_at_24 rfl (lv_at hl 0 rfl) ?_
      refine lv_if_eq (tgt := 42) hx hb dX4_at_25 (by decide) (fun c5 => ?_) (fun c5 => ?_)
      · skip
        exact absurd c5 (by decide)
      · skip
        refine lv_aload_n hx hb dX4_at_28 rfl (lv_at hl 1 rfl) ?_
        refine kget hC.1 hK hP 0 rfl rfl in_4 2 (by decide) (gw_in m_171 rfl) rfl dX4_at_29 ?_
        refine lv_iload_n hx hb dX4_at_32 rfl (lv_at hl 2 rfl) ?_
        refine lv_bipush (v := 6) hx hb dX4_at_33 rfl ?_
        refine lv_imul hx hb dX4_at_35 ?_
        refine lv_iload_n hx hb dX4_at_36 rfl (lv_at hl 3 rfl) ?_
        refine lv_iadd hx hb dX4_at_37 ?_
        refine kald (v := f (cl ((i * 6) + j))) hC.1 hK hP 1 rfl (at_in c1 c3) rfl dX4_at_38 ?_
        refine lv_goto (tgt := 43) hx hb dX4_at_39 (by decide) ?_
        exact ret_roi hx hb hr hlk (by first | (simp [atF, Int32.not_le, Int32.not_lt, c1, c3]; done) | (clear hx hb hr hlk hnm hml hown hts hC hl; simp_all [atF, Int32.not_le, Int32.not_lt])) dX4_at_43
set_option maxHeartbeats 4000000 in
set_option maxRecDepth 100000 in
theorem kX4_copyOf (l : Launch) (g : gG) (a b : Nat → Nat) (N N2 : Nat) (lim lim2 : Int32) (f f2 : Nat → Int32) : Met l yX4_copyOf (.code yX4_copyOf cX4_copyOf 2 none :: gw) (rmN 1) (va_Pc [.ref (a 0), .ref (b 0)] (rwPre g (rW g a N lim f ++ (rW g b N2 lim2 f2 ++ [])))) (rwQv g (rW g a N lim f ++ (rW g b N2 lim2 f2 ++ [])) (rW g a N2 lim f2 ++ (rW g b N2 lim2 f2 ++ []))) 0 0 (dm (rW g a N lim f ++ (rW g b N2 lim2 f2 ++ []))) := by
  refine met_start (by decide) (Nat.le_of_ble_eq_true rfl) ?_
  intro pp ee ss mm bl mt cd hC hpre ls hl
  obtain ⟨⟨hx, hb, hml, hown, hts⟩, hr, hlk, hnm⟩ := id hC
  have hl : lv_has ls 2 [(0, .ref (a 0)), (1, .ref (b 0))] := hl
  obtain ⟨hP, hK, hD⟩ := hpre
  have hS : va_S (dm (rW g a N lim f ++ (rW g b N2 lim2 f2 ++ []))) ss.heap ss.heap [] := va_S.rf
  have hD := vD_self hD
  refine lv_aload_n hx hb dX4_copyOf_0 rfl (lv_at hl 0 rfl) ?_
  refine lv_aload_n hx hb dX4_copyOf_1 rfl (lv_at hl 1 rfl) ?_
  refine kget hC.1 hK (kP_app.mp (kP_app.mp hP).2).1 0 rfl rfl in_4 0 (by decide) (gw_in m_166 rfl) rfl dX4_copyOf_2 ?_
  refine kput (B' := rW g a N2 lim f) hC.1 hK hP hD hS 0 rfl rfl in_4 tyX4 tyX4_ok nmX4 0 (by decide) (gw_in m_166 rfl) rfl (ty := .int) (by decide +kernel) rfl rfl (Nat.le_of_ble_eq_true rfl) (fun _ h => h) rW_adr dX4_copyOf_5 (fun H locs hP hD hS => ?_)
  refine lv_aload_n hx hb dX4_copyOf_8 rfl (lv_at hl 1 rfl) ?_
  refine kget hC.1 hK (kP_app.mp (kP_app.mp hP).2).1 0 rfl rfl in_4 2 (by decide) (gw_in m_171 rfl) rfl dX4_copyOf_9 ?_
  refine lv_iconst (v := 0) hx hb dX4_copyOf_12 rfl ?_
  refine lv_aload_n hx hb dX4_copyOf_13 rfl (lv_at hl 0 rfl) ?_
  refine kget hC.1 hK (kP_app.mp hP).1 0 rfl rfl in_4 2 (by decide) (gw_in m_171 rfl) rfl dX4_copyOf_14 ?_
  refine lv_iconst (v := 0) hx hb dX4_copyOf_17 rfl ?_
  refine lv_bipush (v := 36) hx hb dX4_copyOf_18 rfl ?_
  refine kcpy (B' := rW g a N2 lim (va_cpy f2 f (cl 0) (cl 0) (cl 36))) hC.1 (hml.trans hl.1.symm) hK hP hD hS 3 1 (app_get2 (k := 1) rfl rfl) rfl (hts _ (gw_in m_913 rfl)) (hts _ (gw_in m_559 rfl)) (hts _ (gw_in m_558 rfl)) (hts _ (gw_in m_77 rfl)) (by decide) (by decide) (by decide) (by decide) (by decide) (fun _ h => h) rW_adr (Nat.le_of_ble_eq_true rfl) (Nat.le_of_ble_eq_true rfl) dX4_copyOf_20 (fun H locs hP hD hS => ?_)
  have hP : kP g (rW g a N2 lim f2 ++ (rW g b N2 lim2 f2 ++ [])) _ := kP_new (rW_arr1 (fun j hj => cpy_all (n := 36) hj)) hP
  have hD : va_D _ (rW g a N2 lim f2 ++ (rW g b N2 lim2 f2 ++ [])) := vD_adr (adr_app rW_adr rfl) hD
  exact ret_rwv hx hb hr hlk (hP) hS dX4_copyOf_23
set_option maxHeartbeats 4000000 in
set_option maxRecDepth 100000 in
theorem kX4_add (l : Launch) (g : gG) (a : Nat → Nat) (N : Nat) (lim : Int32) (f : Nat → Int32) (x1 x2 x3 x4 x5 x6 : Int32) (hN : N < 6) : Met l yX4_add (.code yX4_add cX4_add 8 (some .int) :: gw) (rmN 0) (va_Pc [.ref (a 0), .int (x1), .int (x2), .int (x3), .int (x4), .int (x5), .int (x6)] (rwPre g (rW g a N lim f ++ []))) (rwQi g (rW g a N lim f ++ []) (rW g a (N + 1) lim (add6 f N x1 x2 x3 x4 x5 x6) ++ []) (nI (N + 1))) 0 0 (dm (rW g a N lim f ++ [])) := by
  refine met_start (by decide) (Nat.le_of_ble_eq_true rfl) ?_
  intro pp ee ss mm bl mt cd hC hpre ls hl
  obtain ⟨⟨hx, hb, hml, hown, hts⟩, hr, hlk, hnm⟩ := id hC
  have hl : lv_has ls 8 [(0, .ref (a 0)), (1, .int (x1)), (2, .int (x2)), (3, .int (x3)), (4, .int (x4)), (5, .int (x5)), (6, .int (x6))] := hl
  obtain ⟨hP, hK, hD⟩ := hpre
  have hS : va_S (dm (rW g a N lim f ++ [])) ss.heap ss.heap [] := va_S.rf
  have hD := vD_self hD
  refine lv_aload_n hx hb dX4_add_0 rfl (lv_at hl 0 rfl) ?_
  refine kget hC.1 hK (kP_app.mp hP).1 0 rfl rfl in_4 0 (by decide) (gw_in m_166 rfl) rfl dX4_add_1 ?_
  refine lv_if_lt (tgt := 16) hx hb dX4_add_4 (by decide) (fun c1 => ?_) (fun c1 => ?_)
  · skip
    have c1' := Int32.not_le.mpr c1
    exact absurd c1 (nI_pos (by omega))
  · skip
    have c1' := Int32.not_lt.mp c1
    refine lv_aload_n hx hb dX4_add_7 rfl (lv_at hl 0 rfl) ?_
    refine kget hC.1 hK (kP_app.mp hP).1 0 rfl rfl in_4 0 (by decide) (gw_in m_166 rfl) rfl dX4_add_8 ?_
    refine lv_bipush (v := 6) hx hb dX4_add_11 rfl ?_
    refine lv_icmp_lt (tgt := 19) hx hb dX4_add_13 (by decide) (fun c2 => ?_) (fun c2 => ?_)
    · skip
      have c2' := Int32.not_le.mpr c2
      refine lv_aload_n hx hb dX4_add_19 rfl (lv_at hl 0 rfl) ?_
      refine kget hC.1 hK (kP_app.mp hP).1 0 rfl rfl in_4 0 (by decide) (gw_in m_166 rfl) rfl dX4_add_20 ?_
      refine lv_bipush (v := 6) hx hb dX4_add_23 rfl ?_
      refine lv_imul hx hb dX4_add_25 ?_
      refine top_i (x := (nI N) * 6) (y := nI (6 * N)) (by rw [show (6 : Int32) = nI 6 from rfl, pk_mul, Nat.mul_comm]) ?_
      refine lv_istore (lv' := [(7, .int (nI (6 * N))), (0, .ref (a 0)), (1, .int (x1)), (2, .int (x2)), (3, .int (x3)), (4, .int (x4)), (5, .int (x5)), (6, .int (x6))]) hx hb dX4_add_26 hl (by decide) rfl (fun ls hl => ?_)
      refine lv_aload_n hx hb dX4_add_28 rfl (lv_at hl 1 rfl) ?_
      refine kget hC.1 hK (kP_app.mp hP).1 0 rfl rfl in_4 2 (by decide) (gw_in m_171 rfl) rfl dX4_add_29 ?_
      refine lv_iload hx hb dX4_add_32 (lv_at hl 0 rfl) ?_
      refine lv_iload_n hx hb dX4_add_34 rfl (lv_at hl 2 rfl) ?_
      refine kast (B' := rW g a N lim (upd f (6 * N) x1)) hC.1 hK hP hD hS 1 rfl (vp_in_nI (by omega : 6 * N < 36) (by omega)) (fun _ h => by rw [cl_nI (by omega)] at h; exact h) rW_adr dX4_add_35 (fun H locs hP hD hS => ?_)
      refine lv_aload_n hx hb dX4_add_36 rfl (lv_at hl 1 rfl) ?_
      refine kget hC.1 hK (kP_app.mp hP).1 0 rfl rfl in_4 2 (by decide) (gw_in m_171 rfl) rfl dX4_add_37 ?_
      refine lv_iload hx hb dX4_add_40 (lv_at hl 0 rfl) ?_
      refine lv_iconst (v := 1) hx hb dX4_add_42 rfl ?_
      refine lv_iadd hx hb dX4_add_43 ?_
      refine top_i (x := (nI (6 * N)) + 1) (y := nI (6 * N + 1)) (by rw [show (1 : Int32) = nI 1 from rfl, nI_add]) ?_
      refine lv_iload_n hx hb dX4_add_44 rfl (lv_at hl 3 rfl) ?_
      refine kast (B' := rW g a N lim (upd (upd f (6 * N) x1) (6 * N + 1) x2)) hC.1 hK hP hD hS 1 rfl (vp_in_nI (by omega : 6 * N + 1 < 36) (by omega)) (fun _ h => by rw [cl_nI (by omega)] at h; exact h) rW_adr dX4_add_45 (fun H locs hP hD hS => ?_)
      refine lv_aload_n hx hb dX4_add_46 rfl (lv_at hl 1 rfl) ?_
      refine kget hC.1 hK (kP_app.mp hP).1 0 rfl rfl in_4 2 (by decide) (gw_in m_171 rfl) rfl dX4_add_47 ?_
      refine lv_iload hx hb dX4_add_50 (lv_at hl 0 rfl) ?_
      refine lv_iconst (v := 2) hx hb dX4_add_52 rfl ?_
      refine lv_iadd hx hb dX4_add_53 ?_
      refine top_i (x := (nI (6 * N)) + 2) (y := nI (6 * N + 2)) (by rw [show (2 : Int32) = nI 2 from rfl, nI_add]) ?_
      refine lv_iload_n hx hb dX4_add_54 rfl (lv_at hl 4 rfl) ?_
      refine kast (B' := rW g a N lim (upd (upd (upd f (6 * N) x1) (6 * N + 1) x2) (6 * N + 2) x3)) hC.1 hK hP hD hS 1 rfl (vp_in_nI (by omega : 6 * N + 2 < 36) (by omega)) (fun _ h => by rw [cl_nI (by omega)] at h; exact h) rW_adr dX4_add_55 (fun H locs hP hD hS => ?_)
      refine lv_aload_n hx hb dX4_add_56 rfl (lv_at hl 1 rfl) ?_
      refine kget hC.1 hK (kP_app.mp hP).1 0 rfl rfl in_4 2 (by decide) (gw_in m_171 rfl) rfl dX4_add_57 ?_
      refine lv_iload hx hb dX4_add_60 (lv_at hl 0 rfl) ?_
      refine lv_iconst (v := 3) hx hb dX4_add_62 rfl ?_
      refine lv_iadd hx hb dX4_add_63 ?_
      refine top_i (x := (nI (6 * N)) + 3) (y := nI (6 * N + 3)) (by rw [show (3 : Int32) = nI 3 from rfl, nI_add]) ?_
      refine lv_iload hx hb dX4_add_64 (lv_at hl 5 rfl) ?_
      refine kast (B' := rW g a N lim (upd (upd (upd (upd f (6 * N) x1) (6 * N + 1) x2) (6 * N + 2) x3) (6 * N + 3) x4)) hC.1 hK hP hD hS 1 rfl (vp_in_nI (by omega : 6 * N + 3 < 36) (by omega)) (fun _ h => by rw [cl_nI (by omega)] at h; exact h) rW_adr dX4_add_66 (fun H locs hP hD hS => ?_)
      refine lv_aload_n hx hb dX4_add_67 rfl (lv_at hl 1 rfl) ?_
      refine kget hC.1 hK (kP_app.mp hP).1 0 rfl rfl in_4 2 (by decide) (gw_in m_171 rfl) rfl dX4_add_68 ?_
      refine lv_iload hx hb dX4_add_71 (lv_at hl 0 rfl) ?_
      refine lv_iconst (v := 4) hx hb dX4_add_73 rfl ?_
      refine lv_iadd hx hb dX4_add_74 ?_
      refine top_i (x := (nI (6 * N)) + 4) (y := nI (6 * N + 4)) (by rw [show (4 : Int32) = nI 4 from rfl, nI_add]) ?_
      refine lv_iload hx hb dX4_add_75 (lv_at hl 6 rfl) ?_
      refine kast (B' := rW g a N lim (upd (upd (upd (upd (upd f (6 * N) x1) (6 * N + 1) x2) (6 * N + 2) x3) (6 * N + 3) x4) (6 * N + 4) x5)) hC.1 hK hP hD hS 1 rfl (vp_in_nI (by omega : 6 * N + 4 < 36) (by omega)) (fun _ h => by rw [cl_nI (by omega)] at h; exact h) rW_adr dX4_add_77 (fun H locs hP hD hS => ?_)
      refine lv_aload_n hx hb dX4_add_78 rfl (lv_at hl 1 rfl) ?_
      refine kget hC.1 hK (kP_app.mp hP).1 0 rfl rfl in_4 2 (by decide) (gw_in m_171 rfl) rfl dX4_add_79 ?_
      refine lv_iload hx hb dX4_add_82 (lv_at hl 0 rfl) ?_
      refine lv_iconst (v := 5) hx hb dX4_add_84 rfl ?_
      refine lv_iadd hx hb dX4_add_85 ?_
      refine top_i (x := (nI (6 * N)) + 5) (y := nI (6 * N + 5)) (by rw [show (5 : Int32) = nI 5 from rfl, nI_add]) ?_
      refine lv_iload hx hb dX4_add_86 (lv_at hl 7 rfl) ?_
      refine kast (B' := rW g a N lim (upd (upd (upd (upd (upd (upd f (6 * N) x1) (6 * N + 1) x2) (6 * N + 2) x3) (6 * N + 3) x4) (6 * N + 4) x5) (6 * N + 5) x6)) hC.1 hK hP hD hS 1 rfl (vp_in_nI (by omega : 6 * N + 5 < 36) (by omega)) (fun _ h => by rw [cl_nI (by omega)] at h; exact h) rW_adr dX4_add_88 (fun H locs hP hD hS => ?_)
      refine lv_aload_n hx hb dX4_add_89 rfl (lv_at hl 1 rfl) ?_
      refine lv_dup hx hb dX4_add_90 rfl ?_
      refine kget hC.1 hK (kP_app.mp hP).1 0 rfl rfl in_4 0 (by decide) (gw_in m_166 rfl) rfl dX4_add_91 ?_
      refine lv_iconst (v := 1) hx hb dX4_add_94 rfl ?_
      refine lv_iadd hx hb dX4_add_95 ?_
      refine top_i (x := (nI N) + 1) (y := nI (N + 1)) (nI_1 N) ?_
      refine kput (B' := rW g a (N + 1) lim (upd (upd (upd (upd (upd (upd f (6 * N) x1) (6 * N + 1) x2) (6 * N + 2) x3) (6 * N + 3) x4) (6 * N + 4) x5) (6 * N + 5) x6)) hC.1 hK hP hD hS 0 rfl rfl in_4 tyX4 tyX4_ok nmX4 0 (by decide) (gw_in m_166 rfl) rfl (ty := .int) (by decide +kernel) rfl rfl (Nat.le_of_ble_eq_true rfl) (fun _ h => h) rW_adr dX4_add_96 (fun H locs hP hD hS => ?_)
      refine lv_aload_n hx hb dX4_add_99 rfl (lv_at hl 1 rfl) ?_
      refine kget hC.1 hK (kP_app.mp hP).1 0 rfl rfl in_4 0 (by decide) (gw_in m_166 rfl) rfl dX4_add_100 ?_
      exact ret_rwi hx hb hr hlk (by rfl) (hP) hS dX4_add_103
    · skip
      have c2' := Int32.not_lt.mp c2
      exact absurd (show nI N < nI 6 from nI_lt (by omega) (by omega)) c2
set_option maxHeartbeats 4000000 in
set_option maxRecDepth 100000 in
theorem kX4_foldInto (l : Launch) (g : gG) (a : Nat → Nat) (N : Nat) (lim : Int32) (f : Nat → Int32) (h : Int64) (w : Nat) (hN : N ≤ 6) (hw : w ≤ 6) : Met l yX4_foldInto (.code yX4_foldInto cX4_foldInto 6 (some .long) :: gw) (rmN 2) (va_Pc [.ref (a 0), .long (h), .int (nI w)] (roPre g (rW g a N lim f))) (vp_Sl (fun v => v = (dgR f w h N))) 0 0 (fun _ => False) := by
  refine met_start (by decide) (Nat.le_of_ble_eq_true rfl) ?_
  intro pp ee ss mm bl mt cd hC hpre ls hl
  obtain ⟨⟨hx, hb, hml, hown, hts⟩, hr, hlk, hnm⟩ := id hC
  have hl : lv_has ls 6 [(0, .ref (a 0)), (1, .long (h)), (3, .int (nI w))] := hl
  obtain ⟨hP, hK⟩ := hpre
  refine lv_iconst (v := 0) hx hb dX4_foldInto_0 rfl ?_
  refine lv_istore (lv' := [(4, .int (0)), (0, .ref (a 0)), (1, .long (h)), (3, .int (nI w))]) hx hb dX4_foldInto_1 hl (by decide) rfl (fun ls hl => ?_)
  have cut3 : ∀ kk : Nat, ∀ (n : Nat), 7 - n < kk → (hn : n ≤ N) → ∀ (ls : Array Slot), lv_has ls 6 [(0, .ref (a 0)), (1, .long (dgR f w h n)), (3, .int (nI w)), (4, .int (nI n))] → W pp l ee (rmN 2) ss mm ([.ref (a 0), .long (h), .int (nI w)] : List Value).toArray bl mt cd ss.heap [] 0 0 (MQ bl (vp_Sl (fun v => v = (dgR f w h N))) ([.ref (a 0), .long (h), .int (nI w)] : List Value).toArray ss 0 0 (fun _ => False)) (F0 mm 3 ls []) := by
    intro kk
    induction kk with
    | zero => intro n hmu; exact absurd hmu (Nat.not_lt_zero _)
    | succ kk ih3 =>
      intro n hmu hn ls hl
      refine lv_iload hx hb dX4_foldInto_3 (lv_at hl 3 rfl) ?_
      refine lv_aload_n hx hb dX4_foldInto_5 rfl (lv_at hl 0 rfl) ?_
      refine kget hC.1 hK hP 0 rfl rfl in_4 0 (by decide) (gw_in m_166 rfl) rfl dX4_foldInto_6 ?_
      refine lv_icmp_ge (tgt := 49) hx hb dX4_foldInto_9 (by decide) (fun c1 => ?_) (fun c1 => ?_)
      · skip
        have c1' := Int32.not_lt.mpr c1
        have hn9 : n = N := by rw [nI_leI (by omega) (by omega)] at c1; omega
        subst hn9
        refine lv_lload_n hx hb dX4_foldInto_49 rfl (lv_at hl 1 rfl) ?_
        exact ret_rol hx hb hr hlk (by rfl) dX4_foldInto_50
      · skip
        have c1' := Int32.not_le.mp c1
        have hn9 : n < N := by rw [nI_leI (by omega) (by omega)] at c1; omega
        refine lv_iconst (v := 0) hx hb dX4_foldInto_12 rfl ?_
        refine lv_istore (lv' := [(5, .int (0)), (0, .ref (a 0)), (1, .long (dgR f w h n)), (3, .int (nI w)), (4, .int (nI n))]) hx hb dX4_foldInto_13 hl (by decide) rfl (fun ls hl => ?_)
        have cut15 : ∀ kk : Nat, ∀ (z : Nat), 7 - z < kk → (hz : z ≤ w) → ∀ (ls : Array Slot), lv_has ls 6 [(0, .ref (a 0)), (1, .long (dgK (fun z => f (6 * n + z)) (dgR f w h n) z)), (3, .int (nI w)), (4, .int (nI n)), (5, .int (nI z))] → W pp l ee (rmN 2) ss mm ([.ref (a 0), .long (h), .int (nI w)] : List Value).toArray bl mt cd ss.heap [] 0 0 (MQ bl (vp_Sl (fun v => v = (dgR f w h N))) ([.ref (a 0), .long (h), .int (nI w)] : List Value).toArray ss 0 0 (fun _ => False)) (F0 mm 15 ls []) := by
          intro kk
          induction kk with
          | zero => intro z hmu; exact absurd hmu (Nat.not_lt_zero _)
          | succ kk ih15 =>
            intro z hmu hz ls hl
            refine lv_iload hx hb dX4_foldInto_15 (lv_at hl 4 rfl) ?_
            refine lv_iload_n hx hb dX4_foldInto_17 rfl (lv_at hl 2 rfl) ?_
            refine lv_icmp_ge (tgt := 43) hx hb dX4_foldInto_18 (by decide) (fun c2 => ?_) (fun c2 => ?_)
            · skip
              have c2' := Int32.not_lt.mpr c2
              have hz9 : w = z := by rw [nI_leI (by omega) (by omega)] at c2; omega
              have hl : lv_has ls 6 [(0, .ref (a 0)), (1, .long (dgR f w h (n + 1))), (3, .int (nI w)), (4, .int (nI n))] := by subst hz9; exact lv_sub hl [0, 1, 2, 3] rfl
              refine lv_iinc (v := nI (n + 1)) (lv' := [(4, .int (nI (n + 1))), (0, .ref (a 0)), (1, .long (dgR f w h (n + 1))), (3, .int (nI w))]) hx hb dX4_foldInto_43 hl (k := 3) rfl (inc_nI n) (by decide) rfl (fun ls hl => ?_)
              refine lv_goto (tgt := 3) hx hb dX4_foldInto_46 (by decide) ?_
              exact ih3 (n + 1) (by omega) (by omega) _ (lv_sub hl [1, 2, 3, 0] rfl)
            · skip
              have c2' := Int32.not_le.mp c2
              have hz9 : z < w := by rw [nI_leI (by omega) (by omega)] at c2; omega
              refine lv_ldc2 (v := 31) hx hb hown (hts _ (gw_in m_952 rfl)) dX4_foldInto_21 ?_
              refine lv_lload_n hx hb dX4_foldInto_24 rfl (lv_at hl 1 rfl) ?_
              refine lv_lmul hx hb dX4_foldInto_25 ?_
              refine lv_aload_n hx hb dX4_foldInto_26 rfl (lv_at hl 0 rfl) ?_
              refine lv_iload hx hb dX4_foldInto_27 (lv_at hl 3 rfl) ?_
              refine lv_iload hx hb dX4_foldInto_29 (lv_at hl 4 rfl) ?_
              refine ro_i (run_V (As := [.int (nI n), .int (nI z)]) (rest := [.long (31 * (dgK (fun z => f (6 * n + z)) (dgR f w h n) z))]) hC.1 ckX4_at (kX4_at l g a N lim f (nI n) (nI z)) (gw_in m_953 rfl) (fb_ro _ _ _) (va_recv hK.1 hP (q0 := 0) rfl rfl) (fun U hU hW => ⟨by rw [hU]; exact hP, kK_warm hW hK⟩) ⟨rfl, rfl, Nat.le_of_ble_eq_true rfl, Nat.le_of_ble_eq_true rfl⟩ rfl hl.1 rfl (Nat.le_of_ble_eq_true rfl) dX4_foldInto_31 ⟨Nat.le_of_ble_eq_true rfl, Nat.le_of_ble_eq_true rfl⟩) ?_
              refine top_i (x := atF f (nI n) (nI z)) (y := f (6 * n + z)) (atF_nI (by omega) (by omega)) ?_
              refine lv_i2l hx hb dX4_foldInto_34 rfl ?_
              refine lv_ladd hx hb dX4_foldInto_35 ?_
              refine top_l (x := (31 * (dgK (fun z => f (6 * n + z)) (dgR f w h n) z)) + ((f (6 * n + z)).toInt64)) (y := dgK (fun z => f (6 * n + z)) (dgR f w h n) (z + 1)) rfl ?_
              refine lv_lstore_n (lv' := [(1, .long (dgK (fun z => f (6 * n + z)) (dgR f w h n) (z + 1))), (0, .ref (a 0)), (3, .int (nI w)), (4, .int (nI n)), (5, .int (nI z))]) hx hb dX4_foldInto_36 rfl hl (by decide) rfl (fun ls hl => ?_)
              refine lv_iinc (v := nI (z + 1)) (lv' := [(5, .int (nI (z + 1))), (1, .long (dgK (fun z => f (6 * n + z)) (dgR f w h n) (z + 1))), (0, .ref (a 0)), (3, .int (nI w)), (4, .int (nI n))]) hx hb dX4_foldInto_37 hl (k := 4) rfl (inc_nI z) (by decide) rfl (fun ls hl => ?_)
              refine lv_goto (tgt := 15) hx hb dX4_foldInto_40 (by decide) ?_
              exact ih15 (z + 1) (by omega) (by omega) _ (lv_sub hl [2, 1, 3, 4, 0] rfl)
        exact cut15 _ 0 (Nat.lt_succ_self _) (by omega) _ (lv_sub hl [1, 2, 3, 4, 0] rfl)
  exact cut3 _ 0 (Nat.lt_succ_self _) (by omega) _ (lv_sub hl [1, 2, 3, 0] rfl)
