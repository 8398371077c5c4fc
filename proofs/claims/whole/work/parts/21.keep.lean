theorem ckX3_keep : ckV yX3_keep cX3_keep 3 none 1 := ⟨(gw_in m_582 rfl), (gw_in m_65 rfl), ⟨(gw_in m_580 rfl), (gw_in m_581 rfl)⟩, by decide +kernel, by decide +kernel, by decide +kernel⟩
set_option maxHeartbeats 4000000 in
set_option maxRecDepth 100000 in
theorem kX3_keep (l : Launch) (g : gG) (a : Nat → Nat) (N : Nat) (f : Nat → Int32) (b : Nat → Nat) (r : Nat → Int32)  (hN : N ≤ 8) : Met l yX3_keep (.code yX3_keep cX3_keep 3 none :: gw) (rmN 2) (va_Pc [.ref (a 0), .ref (b 0)] (rwPre g (pW g a N f ++ (yW g b r ++ [])))) (rwQv g (pW g a N f ++ (yW g b r ++ [])) (pW g a (kpN N) (kpF r N f) ++ (yW g b r ++ []))) 0 0 (dm (pW g a N f ++ (yW g b r ++ []))) := by
  refine met_start (by decide) (Nat.le_of_ble_eq_true rfl) ?_
  intro pp ee ss mm bl mt cd hC hpre ls hl
  obtain ⟨⟨hx, hb, hml, hown, hts⟩, hr, hlk, hnm⟩ := id hC
  have hl : lv_has ls 3 [(0, .ref (a 0)), (1, .ref (b 0))] := hl
  obtain ⟨hP, hK, hD⟩ := hpre
  have hS : va_S (dm (pW g a N f ++ (yW g b r ++ []))) ss.heap ss.heap [] := va_S.rf
  have hD := vD_self hD
  refine lv_aload_n hx hb dX3_keep_0 rfl (lv_at hl 0 rfl) ?_
  refine kget hC.1 hK (kP_app.mp hP).1 0 rfl rfl in_3 0 (by decide) (gw_in m_149 rfl) rfl dX3_keep_1 ?_
  refine lv_bipush (v := 8) hx hb dX3_keep_4 rfl ?_
  refine lv_icmp_lt (tgt := 13) hx hb dX3_keep_6 (by decide) (fun c1 => ?_) (fun c1 => ?_)
  · skip
    have c1' := Int32.not_le.mpr c1
    have hN8 : N < 8 := by rw [show (8 : Int32) = nI 8 from rfl, nI_ltI (by omega) (by omega)] at c1; exact c1
    refine lv_aload_n hx hb dX3_keep_13 rfl (lv_at hl 0 rfl) ?_
    refine kget hC.1 hK (kP_app.mp hP).1 0 rfl rfl in_3 0 (by decide) (gw_in m_149 rfl) rfl dX3_keep_14 ?_
    refine lv_if_lt (tgt := 29) hx hb dX3_keep_17 (by decide) (fun c2 => ?_) (fun c2 => ?_)
    · skip
      have c2' := Int32.not_le.mpr c2
      exact absurd c2 (nI_pos (by omega))
    · skip
      have c2' := Int32.not_lt.mp c2
      refine lv_aload_n hx hb dX3_keep_20 rfl (lv_at hl 0 rfl) ?_
      refine kget hC.1 hK (kP_app.mp hP).1 0 rfl rfl in_3 0 (by decide) (gw_in m_149 rfl) rfl dX3_keep_21 ?_
      refine lv_bipush (v := 8) hx hb dX3_keep_24 rfl ?_
      refine lv_icmp_lt (tgt := 30) hx hb dX3_keep_26 (by decide) (fun c3 => ?_) (fun c3 => ?_)
      · skip
        have c3' := Int32.not_le.mpr c3
        refine lv_aload_n hx hb dX3_keep_30 rfl (lv_at hl 0 rfl) ?_
        refine kget hC.1 hK (kP_app.mp hP).1 0 rfl rfl in_3 0 (by decide) (gw_in m_149 rfl) rfl dX3_keep_31 ?_
        refine lv_bipush (v := 19) hx hb dX3_keep_34 rfl ?_
        refine lv_imul hx hb dX3_keep_36 ?_
        refine top_i (x := (nI N) * 19) (y := nI (19 * N)) (by rw [show (19 : Int32) = nI 19 from rfl, pk_mul, Nat.mul_comm]) ?_
        refine lv_istore_n (lv' := [(2, .int (nI (19 * N))), (0, .ref (a 0)), (1, .ref (b 0))]) hx hb dX3_keep_37 rfl hl (by decide) rfl (fun ls hl => ?_)
        refine lv_aload_n hx hb dX3_keep_38 rfl (lv_at hl 1 rfl) ?_
        refine kget hC.1 hK (kP_app.mp hP).1 0 rfl rfl in_3 1 (by decide) (gw_in m_151 rfl) rfl dX3_keep_39 ?_
        refine lv_iload_n hx hb dX3_keep_42 rfl (lv_at hl 0 rfl) ?_
        refine lv_aload_n hx hb dX3_keep_43 rfl (lv_at hl 2 rfl) ?_
        refine kget hC.1 hK (kP_app.mp (kP_app.mp hP).2).1 0 rfl rfl in_7 2 (by decide) (gw_in m_106 rfl) rfl dX3_keep_44 ?_
        refine kast (B' := pW g a N (upd f (cl (nI (19 * N))) (r 0))) hC.1 hK hP hD hS 1 rfl (vp_in_nI (by omega) (by omega)) (fun _ h => h) pW_adr dX3_keep_47 (fun H locs hP hD hS => ?_)
        refine lv_aload_n hx hb dX3_keep_48 rfl (lv_at hl 2 rfl) ?_
        refine kgetN hC.1 hK (kP_app.mp (kP_app.mp hP).2).1 0 rfl rfl in_7 5 (by decide) (hK.2.1 _ _ _ _ _ _ m_111) rfl dX3_keep_49 ?_
        refine lv_iconst (v := 0) hx hb dX3_keep_52 rfl ?_
        refine lv_aload_n hx hb dX3_keep_53 rfl (lv_at hl 1 rfl) ?_
        refine kget hC.1 hK (kP_app.mp hP).1 0 rfl rfl in_3 1 (by decide) (gw_in m_151 rfl) rfl dX3_keep_54 ?_
        refine lv_iload_n hx hb dX3_keep_57 rfl (lv_at hl 0 rfl) ?_
        refine lv_iconst (v := 1) hx hb dX3_keep_58 rfl ?_
        refine lv_iadd hx hb dX3_keep_59 ?_
        refine top_i (x := (nI (19 * N)) + 1) (y := nI (19 * N + 1)) (by rw [show (1 : Int32) = nI 1 from rfl, nI_add]) ?_
        refine lv_bipush (v := 6) hx hb dX3_keep_60 rfl ?_
        refine kcpy (B' := pW g a N (va_cpy (fun j => r (9 + j)) (upd f (cl (nI (19 * N))) (r 0)) (cl 0) (cl (nI (19 * N + 1))) (cl 6))) hC.1 (hml.trans hl.1.symm) hK hP hD hS 5 1 (app_get2 (k := 3) rfl rfl) rfl (hts _ (gw_in m_587 rfl)) (hts _ (gw_in m_559 rfl)) (hts _ (gw_in m_558 rfl)) (hts _ (gw_in m_77 rfl)) (by decide) (nI_pos (by omega)) (by decide) (by decide) (cp_le (by omega) (by omega)) (fun _ h => h) pW_adr (Nat.le_of_ble_eq_true rfl) (Nat.le_of_ble_eq_true rfl) dX3_keep_62 (fun H locs hP hD hS => ?_)
        refine lv_aload_n hx hb dX3_keep_65 rfl (lv_at hl 2 rfl) ?_
        refine kgetN hC.1 hK (kP_app.mp (kP_app.mp hP).2).1 0 rfl rfl in_7 9 (by decide) (hK.2.1 _ _ _ _ _ _ m_116) rfl dX3_keep_66 ?_
        refine lv_iconst (v := 0) hx hb dX3_keep_69 rfl ?_
        refine lv_aload_n hx hb dX3_keep_70 rfl (lv_at hl 1 rfl) ?_
        refine kget hC.1 hK (kP_app.mp hP).1 0 rfl rfl in_3 1 (by decide) (gw_in m_151 rfl) rfl dX3_keep_71 ?_
        refine lv_iload_n hx hb dX3_keep_74 rfl (lv_at hl 0 rfl) ?_
        refine lv_bipush (v := 7) hx hb dX3_keep_75 rfl ?_
        refine lv_iadd hx hb dX3_keep_77 ?_
        refine top_i (x := (nI (19 * N)) + 7) (y := nI (19 * N + 7)) (by rw [show (7 : Int32) = nI 7 from rfl, nI_add]) ?_
        refine lv_bipush (v := 6) hx hb dX3_keep_78 rfl ?_
        refine kcpy (B' := pW g a N (va_cpy (fun j => r (33 + j)) (va_cpy (fun j => r (9 + j)) (upd f (cl (nI (19 * N))) (r 0)) (cl 0) (cl (nI (19 * N + 1))) (cl 6)) (cl 0) (cl (nI (19 * N + 7))) (cl 6))) hC.1 (hml.trans hl.1.symm) hK hP hD hS 9 1 (app_get2 (k := 7) rfl rfl) rfl (hts _ (gw_in m_587 rfl)) (hts _ (gw_in m_559 rfl)) (hts _ (gw_in m_558 rfl)) (hts _ (gw_in m_77 rfl)) (by decide) (nI_pos (by omega)) (by decide) (by decide) (cp_le (by omega) (by omega)) (fun _ h => h) pW_adr (Nat.le_of_ble_eq_true rfl) (Nat.le_of_ble_eq_true rfl) dX3_keep_80 (fun H locs hP hD hS => ?_)
        refine lv_aload_n hx hb dX3_keep_83 rfl (lv_at hl 2 rfl) ?_
        refine kgetN hC.1 hK (kP_app.mp (kP_app.mp hP).2).1 0 rfl rfl in_7 10 (by decide) (hK.2.1 _ _ _ _ _ _ m_118) rfl dX3_keep_84 ?_
        refine lv_iconst (v := 0) hx hb dX3_keep_87 rfl ?_
        refine lv_aload_n hx hb dX3_keep_88 rfl (lv_at hl 1 rfl) ?_
        refine kget hC.1 hK (kP_app.mp hP).1 0 rfl rfl in_3 1 (by decide) (gw_in m_151 rfl) rfl dX3_keep_89 ?_
        refine lv_iload_n hx hb dX3_keep_92 rfl (lv_at hl 0 rfl) ?_
        refine lv_bipush (v := 13) hx hb dX3_keep_93 rfl ?_
        refine lv_iadd hx hb dX3_keep_95 ?_
        refine top_i (x := (nI (19 * N)) + 13) (y := nI (19 * N + 13)) (by rw [show (13 : Int32) = nI 13 from rfl, nI_add]) ?_
        refine lv_bipush (v := 6) hx hb dX3_keep_96 rfl ?_
        refine kcpy (B' := pW g a N (va_cpy (fun j => r (39 + j)) (va_cpy (fun j => r (33 + j)) (va_cpy (fun j => r (9 + j)) (upd f (cl (nI (19 * N))) (r 0)) (cl 0) (cl (nI (19 * N + 1))) (cl 6)) (cl 0) (cl (nI (19 * N + 7))) (cl 6)) (cl 0) (cl (nI (19 * N + 13))) (cl 6))) hC.1 (hml.trans hl.1.symm) hK hP hD hS 10 1 (app_get2 (k := 8) rfl rfl) rfl (hts _ (gw_in m_587 rfl)) (hts _ (gw_in m_559 rfl)) (hts _ (gw_in m_558 rfl)) (hts _ (gw_in m_77 rfl)) (by decide) (nI_pos (by omega)) (by decide) (by decide) (cp_le (by omega) (by omega)) (fun _ h => h) pW_adr (Nat.le_of_ble_eq_true rfl) (Nat.le_of_ble_eq_true rfl) dX3_keep_98 (fun H locs hP hD hS => ?_)
        refine lv_aload_n hx hb dX3_keep_101 rfl (lv_at hl 1 rfl) ?_
        refine lv_dup hx hb dX3_keep_102 rfl ?_
        refine kget hC.1 hK (kP_app.mp hP).1 0 rfl rfl in_3 0 (by decide) (gw_in m_149 rfl) rfl dX3_keep_103 ?_
        refine lv_iconst (v := 1) hx hb dX3_keep_106 rfl ?_
        refine lv_iadd hx hb dX3_keep_107 ?_
        refine top_i (x := (nI N) + 1) (y := nI (N + 1)) (nI_1 N) ?_
        refine kput (B' := pW g a (N + 1) (va_cpy (fun j => r (39 + j)) (va_cpy (fun j => r (33 + j)) (va_cpy (fun j => r (9 + j)) (upd f (cl (nI (19 * N))) (r 0)) (cl 0) (cl (nI (19 * N + 1))) (cl 6)) (cl 0) (cl (nI (19 * N + 7))) (cl 6)) (cl 0) (cl (nI (19 * N + 13))) (cl 6))) hC.1 hK hP hD hS 0 rfl rfl in_3 tyX3 tyX3_ok nmX3 0 (by decide) (gw_in m_149 rfl) rfl (ty := .int) (by decide +kernel) rfl rfl (Nat.le_of_ble_eq_true rfl) (fun _ h => h) pW_adr dX3_keep_108 (fun H locs hP hD hS => ?_)
        exact ret_rwv hx hb hr hlk (by exact kP_new (pW_arr1 (fun j hj => (kp_a hN hN8 j).symm)) (kP_eq (by rw [kpN_a hN8]) hP)) hS dX3_keep_111
      · skip
        have c3' := Int32.not_lt.mp c3
        exact absurd (show nI _ < nI 8 from nI_lt (by omega) (by omega)) c3
  · skip
    have c1' := Int32.not_lt.mp c1
    have hN8 : ¬ N < 8 := by rw [show (8 : Int32) = nI 8 from rfl, nI_ltI (by omega) (by omega)] at c1; exact c1
    refine lv_aload_n hx hb dX3_keep_9 rfl (lv_at hl 0 rfl) ?_
    refine rw_v (run_V (As := []) (rest := []) hC.1 ckX3_dropOldest (kX3_dropOldest l g a N f) (gw_in m_583 rfl) (fb_rw _ _ _) (va_recv hK.1 (kP_app.mp hP).1 (q0 := 0) rfl rfl) (fun U hU hW => ⟨by rw [hU]; exact (kP_app.mpr ⟨(kP_app.mp hP).1, kP_nil⟩), kK_warm hW hK, vD_sub (sbA _ (sb0 _)) hD⟩) ⟨rfl, rfl, Nat.le_of_ble_eq_true rfl, Nat.le_of_ble_eq_true rfl⟩ rfl hl.1 rfl (Nat.le_of_ble_eq_true rfl) dX3_keep_10 ⟨Nat.le_of_ble_eq_true rfl, Nat.le_of_ble_eq_true rfl⟩) (adr_app pW_adr rfl) (asc1 _ _) (ww' := pW g a 7 (va_cpy f f 19 0 133) ++ (yW g b r ++ [])) (asc1 _ _) hP hD hS (fun H locs hP hD hS => ?_)
    refine lv_aload_n hx hb dX3_keep_13 rfl (lv_at hl 0 rfl) ?_
    refine kget hC.1 hK (kP_app.mp hP).1 0 rfl rfl in_3 0 (by decide) (gw_in m_149 rfl) rfl dX3_keep_14 ?_
    refine lv_if_lt (tgt := 29) hx hb dX3_keep_17 (by decide) (fun c4 => ?_) (fun c4 => ?_)
    · skip
      have c4' := Int32.not_le.mpr c4
      exact absurd c4 (nI_pos (by omega))
    · skip
      have c4' := Int32.not_lt.mp c4
      refine lv_aload_n hx hb dX3_keep_20 rfl (lv_at hl 0 rfl) ?_
      refine kget hC.1 hK (kP_app.mp hP).1 0 rfl rfl in_3 0 (by decide) (gw_in m_149 rfl) rfl dX3_keep_21 ?_
      refine lv_bipush (v := 8) hx hb dX3_keep_24 rfl ?_
      refine lv_icmp_lt (tgt := 30) hx hb dX3_keep_26 (by decide) (fun c5 => ?_) (fun c5 => ?_)
      · skip
        have c5' := Int32.not_le.mpr c5
        refine lv_aload_n hx hb dX3_keep_30 rfl (lv_at hl 0 rfl) ?_
        refine kget hC.1 hK (kP_app.mp hP).1 0 rfl rfl in_3 0 (by decide) (gw_in m_149 rfl) rfl dX3_keep_31 ?_
        refine lv_bipush (v := 19) hx hb dX3_keep_34 rfl ?_
        refine lv_imul hx hb dX3_keep_36 ?_
        refine top_i (x := (nI 7) * 19) (y := nI (19 * 7)) (by rw [show (19 : Int32) = nI 19 from rfl, pk_mul, Nat.mul_comm]) ?_
        refine lv_istore_n (lv' := [(2, .int (nI (19 * 7))), (0, .ref (a 0)), (1, .ref (b 0))]) hx hb dX3_keep_37 rfl hl (by decide) rfl (fun ls hl => ?_)
        refine lv_aload_n hx hb dX3_keep_38 rfl (lv_at hl 1 rfl) ?_
        refine kget hC.1 hK (kP_app.mp hP).1 0 rfl rfl in_3 1 (by decide) (gw_in m_151 rfl) rfl dX3_keep_39 ?_
        refine lv_iload_n hx hb dX3_keep_42 rfl (lv_at hl 0 rfl) ?_
        refine lv_aload_n hx hb dX3_keep_43 rfl (lv_at hl 2 rfl) ?_
        refine kget hC.1 hK (kP_app.mp (kP_app.mp hP).2).1 0 rfl rfl in_7 2 (by decide) (gw_in m_106 rfl) rfl dX3_keep_44 ?_
        refine kast (B' := pW g a 7 (upd (va_cpy f f 19 0 133) (cl (nI (19 * 7))) (r 0))) hC.1 hK hP hD hS 1 rfl (vp_in_nI (by omega) (by omega)) (fun _ h => h) pW_adr dX3_keep_47 (fun H locs hP hD hS => ?_)
        refine lv_aload_n hx hb dX3_keep_48 rfl (lv_at hl 2 rfl) ?_
        refine kgetN hC.1 hK (kP_app.mp (kP_app.mp hP).2).1 0 rfl rfl in_7 5 (by decide) (hK.2.1 _ _ _ _ _ _ m_111) rfl dX3_keep_49 ?_
        refine lv_iconst (v := 0) hx hb dX3_keep_52 rfl ?_
        refine lv_aload_n hx hb dX3_keep_53 rfl (lv_at hl 1 rfl) ?_
        refine kget hC.1 hK (kP_app.mp hP).1 0 rfl rfl in_3 1 (by decide) (gw_in m_151 rfl) rfl dX3_keep_54 ?_
        refine lv_iload_n hx hb dX3_keep_57 rfl (lv_at hl 0 rfl) ?_
        refine lv_iconst (v := 1) hx hb dX3_keep_58 rfl ?_
        refine lv_iadd hx hb dX3_keep_59 ?_
        refine top_i (x := (nI (19 * 7)) + 1) (y := nI (19 * 7 + 1)) (by rw [show (1 : Int32) = nI 1 from rfl, nI_add]) ?_
        refine lv_bipush (v := 6) hx hb dX3_keep_60 rfl ?_
        refine kcpy (B' := pW g a 7 (va_cpy (fun j => r (9 + j)) (upd (va_cpy f f 19 0 133) (cl (nI (19 * 7))) (r 0)) (cl 0) (cl (nI (19 * 7 + 1))) (cl 6))) hC.1 (hml.trans hl.1.symm) hK hP hD hS 5 1 (app_get2 (k := 3) rfl rfl) rfl (hts _ (gw_in m_587 rfl)) (hts _ (gw_in m_559 rfl)) (hts _ (gw_in m_558 rfl)) (hts _ (gw_in m_77 rfl)) (by decide) (nI_pos (by omega)) (by decide) (by decide) (cp_le (by omega) (by omega)) (fun _ h => h) pW_adr (Nat.le_of_ble_eq_true rfl) (Nat.le_of_ble_eq_true rfl) dX3_keep_62 (fun H locs hP hD hS => ?_)
        refine lv_aload_n hx hb dX3_keep_65 rfl (lv_at hl 2 rfl) ?_
        refine kgetN hC.1 hK (kP_app.mp (kP_app.mp hP).2).1 0 rfl rfl in_7 9 (by decide) (hK.2.1 _ _ _ _ _ _ m_116) rfl dX3_keep_66 ?_
        refine lv_iconst (v := 0) hx hb dX3_keep_69 rfl ?_
        refine lv_aload_n hx hb dX3_keep_70 rfl (lv_at hl 1 rfl) ?_
        refine kget hC.1 hK (kP_app.mp hP).1 0 rfl rfl in_3 1 (by decide) (gw_in m_151 rfl) rfl dX3_keep_71 ?_
        refine lv_iload_n hx hb dX3_keep_74 rfl (lv_at hl 0 rfl) ?_
        refine lv_bipush (v := 7) hx hb dX3_keep_75 rfl ?_
        refine lv_iadd hx hb dX3_keep_77 ?_
        refine top_i (x := (nI (19 * 7)) + 7) (y := nI (19 * 7 + 7)) (by rw [show (7 : Int32) = nI 7 from rfl, nI_add]) ?_
        refine lv_bipush (v := 6) hx hb dX3_keep_78 rfl ?_
        refine kcpy (B' := pW g a 7 (va_cpy (fun j => r (33 + j)) (va_cpy (fun j => r (9 + j)) (upd (va_cpy f f 19 0 133) (cl (nI (19 * 7))) (r 0)) (cl 0) (cl (nI (19 * 7 + 1))) (cl 6)) (cl 0) (cl (nI (19 * 7 + 7))) (cl 6))) hC.1 (hml.trans hl.1.symm) hK hP hD hS 9 1 (app_get2 (k := 7) rfl rfl) rfl (hts _ (gw_in m_587 rfl)) (hts _ (gw_in m_559 rfl)) (hts _ (gw_in m_558 rfl)) (hts _ (gw_in m_77 rfl)) (by decide) (nI_pos (by omega)) (by decide) (by decide) (cp_le (by omega) (by omega)) (fun _ h => h) pW_adr (Nat.le_of_ble_eq_true rfl) (Nat.le_of_ble_eq_true rfl) dX3_keep_80 (fun H locs hP hD hS => ?_)
        refine lv_aload_n hx hb dX3_keep_83 rfl (lv_at hl 2 rfl) ?_
        refine kgetN hC.1 hK (kP_app.mp (kP_app.mp hP).2).1 0 rfl rfl in_7 10 (by decide) (hK.2.1 _ _ _ _ _ _ m_118) rfl dX3_keep_84 ?_
        refine lv_iconst (v := 0) hx hb dX3_keep_87 rfl ?_
        refine lv_aload_n hx hb dX3_keep_88 rfl (lv_at hl 1 rfl) ?_
        refine kget hC.1 hK (kP_app.mp hP).1 0 rfl rfl in_3 1 (by decide) (gw_in m_151 rfl) rfl dX3_keep_89 ?_
        refine lv_iload_n hx hb dX3_keep_92 rfl (lv_at hl 0 rfl) ?_
        refine lv_bipush (v := 13) hx hb dX3_keep_93 rfl ?_
        refine lv_iadd hx hb dX3_keep_95 ?_
        refine top_i (x := (nI (19 * 7)) + 13) (y := nI (19 * 7 + 13)) (by rw [show (13 : Int32) = nI 13 from rfl, nI_add]) ?_
        refine lv_bipush (v := 6) hx hb dX3_keep_96 rfl ?_
        refine kcpy (B' := pW g a 7 (va_cpy (fun j => r (39 + j)) (va_cpy (fun j => r (33 + j)) (va_cpy (fun j => r (9 + j)) (upd (va_cpy f f 19 0 133) (cl (nI (19 * 7))) (r 0)) (cl 0) (cl (nI (19 * 7 + 1))) (cl 6)) (cl 0) (cl (nI (19 * 7 + 7))) (cl 6)) (cl 0) (cl (nI (19 * 7 + 13))) (cl 6))) hC.1 (hml.trans hl.1.symm) hK hP hD hS 10 1 (app_get2 (k := 8) rfl rfl) rfl (hts _ (gw_in m_587 rfl)) (hts _ (gw_in m_559 rfl)) (hts _ (gw_in m_558 rfl)) (hts _ (gw_in m_77 rfl)) (by decide) (nI_pos (by omega)) (by decide) (by decide) (cp_le (by omega) (by omega)) (fun _ h => h) pW_adr (Nat.le_of_ble_eq_true rfl) (Nat.le_of_ble_eq_true rfl) dX3_keep_98 (fun H locs hP hD hS => ?_)
        refine lv_aload_n hx hb dX3_keep_101 rfl (lv_at hl 1 rfl) ?_
        refine lv_dup hx hb dX3_keep_102 rfl ?_
        refine kget hC.1 hK (kP_app.mp hP).1 0 rfl rfl in_3 0 (by decide) (gw_in m_149 rfl) rfl dX3_keep_103 ?_
        refine lv_iconst (v := 1) hx hb dX3_keep_106 rfl ?_
        refine lv_iadd hx hb dX3_keep_107 ?_
        refine top_i (x := (nI 7) + 1) (y := nI (7 + 1)) (nI_1 7) ?_
        refine kput (B' := pW g a (7 + 1) (va_cpy (fun j => r (39 + j)) (va_cpy (fun j => r (33 + j)) (va_cpy (fun j => r (9 + j)) (upd (va_cpy f f 19 0 133) (cl (nI (19 * 7))) (r 0)) (cl 0) (cl (nI (19 * 7 + 1))) (cl 6)) (cl 0) (cl (nI (19 * 7 + 7))) (cl 6)) (cl 0) (cl (nI (19 * 7 + 13))) (cl 6))) hC.1 hK hP hD hS 0 rfl rfl in_3 tyX3 tyX3_ok nmX3 0 (by decide) (gw_in m_149 rfl) rfl (ty := .int) (by decide +kernel) rfl rfl (Nat.le_of_ble_eq_true rfl) (fun _ h => h) pW_adr dX3_keep_108 (fun H locs hP hD hS => ?_)
        exact ret_rwv hx hb hr hlk (by exact kP_new (pW_arr1 (fun j hj => (kp_b hN hN8 j).symm)) (kP_eq (by rw [kpN_b hN8]) hP)) hS dX3_keep_111
      · skip
        have c5' := Int32.not_lt.mp c5
        exact absurd (show nI _ < nI 8 from nI_lt (by omega) (by omega)) c5
