theorem ckX3_takeBack : ckV yX3_takeBack cX3_takeBack 3 none 1 := ⟨(gw_in m_618 rfl), (gw_in m_65 rfl), ⟨(gw_in m_616 rfl), (gw_in m_617 rfl)⟩, by decide +kernel, by decide +kernel, by decide +kernel⟩
set_option maxHeartbeats 4000000 in
set_option maxRecDepth 100000 in
theorem kX3_takeBack (l : Launch) (g : gG) (a : Nat → Nat) (M : Nat) (f : Nat → Int32) (b : Nat → Nat) (r : Nat → Int32)  (hM : M < 8) : Met l yX3_takeBack (.code yX3_takeBack cX3_takeBack 3 none :: gw) (rmN 1) (va_Pc [.ref (a 0), .ref (b 0)] (rwPre g (pW g a (M + 1) f ++ (yW g b r ++ [])))) (rwQv g (pW g a (M + 1) f ++ (yW g b r ++ [])) (pW g a M f ++ (yW g b (tkF r f M) ++ []))) 0 0 (dm (pW g a (M + 1) f ++ (yW g b r ++ []))) := by
  refine met_start (by decide) (Nat.le_of_ble_eq_true rfl) ?_
  intro pp ee ss mm bl mt cd hC hpre ls hl
  obtain ⟨⟨hx, hb, hml, hown, hts⟩, hr, hlk, hnm⟩ := id hC
  have hl : lv_has ls 3 [(0, .ref (a 0)), (1, .ref (b 0))] := hl
  obtain ⟨hP, hK, hD⟩ := hpre
  have hS : va_S (dm (pW g a (M + 1) f ++ (yW g b r ++ []))) ss.heap ss.heap [] := va_S.rf
  have hD := vD_self hD
  refine lv_aload_n hx hb dX3_takeBack_0 rfl (lv_at hl 0 rfl) ?_
  refine kget hC.1 hK (kP_app.mp hP).1 0 rfl rfl in_3 0 (by decide) (gw_in m_149 rfl) rfl dX3_takeBack_1 ?_
  refine lv_if_le (tgt := 16) hx hb dX3_takeBack_4 (by decide) (fun c1 => ?_) (fun c1 => ?_)
  · skip
    have c1' := Int32.not_lt.mpr c1
    exact absurd c1 (nI_nle (by omega) (by omega))
  · skip
    have c1' := Int32.not_le.mp c1
    refine lv_aload_n hx hb dX3_takeBack_7 rfl (lv_at hl 0 rfl) ?_
    refine kget hC.1 hK (kP_app.mp hP).1 0 rfl rfl in_3 0 (by decide) (gw_in m_149 rfl) rfl dX3_takeBack_8 ?_
    refine lv_bipush (v := 8) hx hb dX3_takeBack_11 rfl ?_
    refine lv_icmp_le (tgt := 17) hx hb dX3_takeBack_13 (by decide) (fun c2 => ?_) (fun c2 => ?_)
    · skip
      have c2' := Int32.not_lt.mpr c2
      refine lv_aload_n hx hb dX3_takeBack_17 rfl (lv_at hl 0 rfl) ?_
      refine lv_dup hx hb dX3_takeBack_18 rfl ?_
      refine kget hC.1 hK (kP_app.mp hP).1 0 rfl rfl in_3 0 (by decide) (gw_in m_149 rfl) rfl dX3_takeBack_19 ?_
      refine lv_iconst (v := 1) hx hb dX3_takeBack_22 rfl ?_
      refine lv_isub hx hb dX3_takeBack_23 ?_
      refine top_i (x := (nI (M + 1)) - 1) (y := nI M) (nI_pred M) ?_
      refine kput (B' := pW g a M f) hC.1 hK hP hD hS 0 rfl rfl in_3 tyX3 tyX3_ok nmX3 0 (by decide) (gw_in m_149 rfl) rfl (ty := .int) (by decide +kernel) rfl rfl (Nat.le_of_ble_eq_true rfl) (fun _ h => h) pW_adr dX3_takeBack_24 (fun H locs hP hD hS => ?_)
      refine lv_aload_n hx hb dX3_takeBack_27 rfl (lv_at hl 0 rfl) ?_
      refine kget hC.1 hK (kP_app.mp hP).1 0 rfl rfl in_3 0 (by decide) (gw_in m_149 rfl) rfl dX3_takeBack_28 ?_
      refine lv_bipush (v := 19) hx hb dX3_takeBack_31 rfl ?_
      refine lv_imul hx hb dX3_takeBack_33 ?_
      refine top_i (x := (nI M) * 19) (y := nI (19 * M)) (by rw [show (19 : Int32) = nI 19 from rfl, pk_mul, Nat.mul_comm]) ?_
      refine lv_istore_n (lv' := [(2, .int (nI (19 * M))), (0, .ref (a 0)), (1, .ref (b 0))]) hx hb dX3_takeBack_34 rfl hl (by decide) rfl (fun ls hl => ?_)
      refine lv_aload_n hx hb dX3_takeBack_35 rfl (lv_at hl 2 rfl) ?_
      refine lv_aload_n hx hb dX3_takeBack_36 rfl (lv_at hl 1 rfl) ?_
      refine kget hC.1 hK (kP_app.mp hP).1 0 rfl rfl in_3 1 (by decide) (gw_in m_151 rfl) rfl dX3_takeBack_37 ?_
      refine lv_iload_n hx hb dX3_takeBack_40 rfl (lv_at hl 0 rfl) ?_
      refine kald (v := f (19 * M)) hC.1 hK (kP_app.mp hP).1 1 rfl (vp_in_nI (by omega) (by omega)) (by rw [cl_nI (by omega)]) dX3_takeBack_41 ?_
      have hP : kP g (yW g b r ++ (pW g a M f ++ [])) _ := kP_perm (pm_swap _ _ _) hP
      have hD : va_D _ (yW g b r ++ (pW g a M f ++ [])) := vD_perm (pm_swap _ _ _) hD
      refine kput (B' := yW g b (upd r 0 (f (19 * M)))) hC.1 hK hP hD hS 0 rfl rfl in_7 tyX7 tyX7_ok nmX7 2 (by decide) (gw_in m_106 rfl) rfl (ty := .int) (by decide +kernel) rfl rfl (Nat.le_of_ble_eq_true rfl) (yF0) yW_adr dX3_takeBack_42 (fun H locs hP hD hS => ?_)
      have hP : kP g (yV g b ((upd r 0 (f (19 * M))) 1) ((upd r 0 (f (19 * M))) 2) ((upd r 0 (f (19 * M))) 0) (fun j => (upd r 0 (f (19 * M))) (3 + j)) (fun j => (upd r 0 (f (19 * M))) (6 + j)) (fun j => (upd r 0 (f (19 * M))) (9 + j)) (fun j => (upd r 0 (f (19 * M))) (15 + j)) (fun j => (upd r 0 (f (19 * M))) (21 + j)) (fun j => (upd r 0 (f (19 * M))) (27 + j)) (fun j => (upd r 0 (f (19 * M))) (33 + j)) (fun j => (upd r 0 (f (19 * M))) (39 + j)) ++ (pW g a M f ++ [])) _ := hP
      have hD : va_D _ (yV g b ((upd r 0 (f (19 * M))) 1) ((upd r 0 (f (19 * M))) 2) ((upd r 0 (f (19 * M))) 0) (fun j => (upd r 0 (f (19 * M))) (3 + j)) (fun j => (upd r 0 (f (19 * M))) (6 + j)) (fun j => (upd r 0 (f (19 * M))) (9 + j)) (fun j => (upd r 0 (f (19 * M))) (15 + j)) (fun j => (upd r 0 (f (19 * M))) (21 + j)) (fun j => (upd r 0 (f (19 * M))) (27 + j)) (fun j => (upd r 0 (f (19 * M))) (33 + j)) (fun j => (upd r 0 (f (19 * M))) (39 + j)) ++ (pW g a M f ++ [])) := hD
      refine lv_aload_n hx hb dX3_takeBack_45 rfl (lv_at hl 1 rfl) ?_
      refine kget hC.1 hK (kP_app.mp (kP_app.mp hP).2).1 0 rfl rfl in_3 1 (by decide) (gw_in m_151 rfl) rfl dX3_takeBack_46 ?_
      refine lv_iload_n hx hb dX3_takeBack_49 rfl (lv_at hl 0 rfl) ?_
      refine lv_iconst (v := 1) hx hb dX3_takeBack_50 rfl ?_
      refine lv_iadd hx hb dX3_takeBack_51 ?_
      refine top_i (x := (nI (19 * M)) + 1) (y := nI (19 * M + 1)) (by rw [show (1 : Int32) = nI 1 from rfl, nI_add]) ?_
      refine lv_aload_n hx hb dX3_takeBack_52 rfl (lv_at hl 2 rfl) ?_
      refine kgetN hC.1 hK (kP_app.mp hP).1 0 rfl rfl in_7 5 (by decide) (hK.2.1 _ _ _ _ _ _ m_111) rfl dX3_takeBack_53 ?_
      refine lv_iconst (v := 0) hx hb dX3_takeBack_56 rfl ?_
      refine lv_bipush (v := 6) hx hb dX3_takeBack_57 rfl ?_
      refine kcpy (B' := yV g b ((upd r 0 (f (19 * M))) 1) ((upd r 0 (f (19 * M))) 2) ((upd r 0 (f (19 * M))) 0) (fun j => (upd r 0 (f (19 * M))) (3 + j)) (fun j => (upd r 0 (f (19 * M))) (6 + j)) (va_cpy f (fun j => (upd r 0 (f (19 * M))) (9 + j)) (cl (nI (19 * M + 1))) (cl 0) (cl 6)) (fun j => (upd r 0 (f (19 * M))) (15 + j)) (fun j => (upd r 0 (f (19 * M))) (21 + j)) (fun j => (upd r 0 (f (19 * M))) (27 + j)) (fun j => (upd r 0 (f (19 * M))) (33 + j)) (fun j => (upd r 0 (f (19 * M))) (39 + j))) hC.1 (hml.trans hl.1.symm) hK hP hD hS 10 3 (app_get2 (k := 1) rfl rfl) rfl (hts _ (gw_in m_587 rfl)) (hts _ (gw_in m_559 rfl)) (hts _ (gw_in m_558 rfl)) (hts _ (gw_in m_77 rfl)) (nI_pos (by omega)) (by decide) (by decide) (cp_le (by omega) (by omega)) (by decide) (fun _ h => h) yV_adr (Nat.le_of_ble_eq_true rfl) (Nat.le_of_ble_eq_true rfl) dX3_takeBack_59 (fun H locs hP hD hS => ?_)
      refine lv_aload_n hx hb dX3_takeBack_62 rfl (lv_at hl 1 rfl) ?_
      refine kget hC.1 hK (kP_app.mp (kP_app.mp hP).2).1 0 rfl rfl in_3 1 (by decide) (gw_in m_151 rfl) rfl dX3_takeBack_63 ?_
      refine lv_iload_n hx hb dX3_takeBack_66 rfl (lv_at hl 0 rfl) ?_
      refine lv_bipush (v := 7) hx hb dX3_takeBack_67 rfl ?_
      refine lv_iadd hx hb dX3_takeBack_69 ?_
      refine top_i (x := (nI (19 * M)) + 7) (y := nI (19 * M + 7)) (by rw [show (7 : Int32) = nI 7 from rfl, nI_add]) ?_
      refine lv_aload_n hx hb dX3_takeBack_70 rfl (lv_at hl 2 rfl) ?_
      refine kgetN hC.1 hK (kP_app.mp hP).1 0 rfl rfl in_7 9 (by decide) (hK.2.1 _ _ _ _ _ _ m_116) rfl dX3_takeBack_71 ?_
      refine lv_iconst (v := 0) hx hb dX3_takeBack_74 rfl ?_
      refine lv_bipush (v := 6) hx hb dX3_takeBack_75 rfl ?_
      refine kcpy (B' := yV g b ((upd r 0 (f (19 * M))) 1) ((upd r 0 (f (19 * M))) 2) ((upd r 0 (f (19 * M))) 0) (fun j => (upd r 0 (f (19 * M))) (3 + j)) (fun j => (upd r 0 (f (19 * M))) (6 + j)) (va_cpy f (fun j => (upd r 0 (f (19 * M))) (9 + j)) (cl (nI (19 * M + 1))) (cl 0) (cl 6)) (fun j => (upd r 0 (f (19 * M))) (15 + j)) (fun j => (upd r 0 (f (19 * M))) (21 + j)) (fun j => (upd r 0 (f (19 * M))) (27 + j)) (va_cpy f (fun j => (upd r 0 (f (19 * M))) (33 + j)) (cl (nI (19 * M + 7))) (cl 0) (cl 6)) (fun j => (upd r 0 (f (19 * M))) (39 + j))) hC.1 (hml.trans hl.1.symm) hK hP hD hS 10 7 (app_get2 (k := 1) rfl rfl) rfl (hts _ (gw_in m_587 rfl)) (hts _ (gw_in m_559 rfl)) (hts _ (gw_in m_558 rfl)) (hts _ (gw_in m_77 rfl)) (nI_pos (by omega)) (by decide) (by decide) (cp_le (by omega) (by omega)) (by decide) (fun _ h => h) yV_adr (Nat.le_of_ble_eq_true rfl) (Nat.le_of_ble_eq_true rfl) dX3_takeBack_77 (fun H locs hP hD hS => ?_)
      refine lv_aload_n hx hb dX3_takeBack_80 rfl (lv_at hl 1 rfl) ?_
      refine kget hC.1 hK (kP_app.mp (kP_app.mp hP).2).1 0 rfl rfl in_3 1 (by decide) (gw_in m_151 rfl) rfl dX3_takeBack_81 ?_
      refine lv_iload_n hx hb dX3_takeBack_84 rfl (lv_at hl 0 rfl) ?_
      refine lv_bipush (v := 13) hx hb dX3_takeBack_85 rfl ?_
      refine lv_iadd hx hb dX3_takeBack_87 ?_
      refine top_i (x := (nI (19 * M)) + 13) (y := nI (19 * M + 13)) (by rw [show (13 : Int32) = nI 13 from rfl, nI_add]) ?_
      refine lv_aload_n hx hb dX3_takeBack_88 rfl (lv_at hl 2 rfl) ?_
      refine kgetN hC.1 hK (kP_app.mp hP).1 0 rfl rfl in_7 10 (by decide) (hK.2.1 _ _ _ _ _ _ m_118) rfl dX3_takeBack_89 ?_
      refine lv_iconst (v := 0) hx hb dX3_takeBack_92 rfl ?_
      refine lv_bipush (v := 6) hx hb dX3_takeBack_93 rfl ?_
      refine kcpy (B' := yV g b ((upd r 0 (f (19 * M))) 1) ((upd r 0 (f (19 * M))) 2) ((upd r 0 (f (19 * M))) 0) (fun j => (upd r 0 (f (19 * M))) (3 + j)) (fun j => (upd r 0 (f (19 * M))) (6 + j)) (va_cpy f (fun j => (upd r 0 (f (19 * M))) (9 + j)) (cl (nI (19 * M + 1))) (cl 0) (cl 6)) (fun j => (upd r 0 (f (19 * M))) (15 + j)) (fun j => (upd r 0 (f (19 * M))) (21 + j)) (fun j => (upd r 0 (f (19 * M))) (27 + j)) (va_cpy f (fun j => (upd r 0 (f (19 * M))) (33 + j)) (cl (nI (19 * M + 7))) (cl 0) (cl 6)) (va_cpy f (fun j => (upd r 0 (f (19 * M))) (39 + j)) (cl (nI (19 * M + 13))) (cl 0) (cl 6))) hC.1 (hml.trans hl.1.symm) hK hP hD hS 10 8 (app_get2 (k := 1) rfl rfl) rfl (hts _ (gw_in m_587 rfl)) (hts _ (gw_in m_559 rfl)) (hts _ (gw_in m_558 rfl)) (hts _ (gw_in m_77 rfl)) (nI_pos (by omega)) (by decide) (by decide) (cp_le (by omega) (by omega)) (by decide) (fun _ h => h) yV_adr (Nat.le_of_ble_eq_true rfl) (Nat.le_of_ble_eq_true rfl) dX3_takeBack_95 (fun H locs hP hD hS => ?_)
      have hP : kP g (pW g a M f ++ (yV g b ((upd r 0 (f (19 * M))) 1) ((upd r 0 (f (19 * M))) 2) ((upd r 0 (f (19 * M))) 0) (fun j => (upd r 0 (f (19 * M))) (3 + j)) (fun j => (upd r 0 (f (19 * M))) (6 + j)) (va_cpy f (fun j => (upd r 0 (f (19 * M))) (9 + j)) (cl (nI (19 * M + 1))) (cl 0) (cl 6)) (fun j => (upd r 0 (f (19 * M))) (15 + j)) (fun j => (upd r 0 (f (19 * M))) (21 + j)) (fun j => (upd r 0 (f (19 * M))) (27 + j)) (va_cpy f (fun j => (upd r 0 (f (19 * M))) (33 + j)) (cl (nI (19 * M + 7))) (cl 0) (cl 6)) (va_cpy f (fun j => (upd r 0 (f (19 * M))) (39 + j)) (cl (nI (19 * M + 13))) (cl 0) (cl 6)) ++ [])) _ := kP_perm (pm_swap _ _ _) hP
      have hD : va_D _ (pW g a M f ++ (yV g b ((upd r 0 (f (19 * M))) 1) ((upd r 0 (f (19 * M))) 2) ((upd r 0 (f (19 * M))) 0) (fun j => (upd r 0 (f (19 * M))) (3 + j)) (fun j => (upd r 0 (f (19 * M))) (6 + j)) (va_cpy f (fun j => (upd r 0 (f (19 * M))) (9 + j)) (cl (nI (19 * M + 1))) (cl 0) (cl 6)) (fun j => (upd r 0 (f (19 * M))) (15 + j)) (fun j => (upd r 0 (f (19 * M))) (21 + j)) (fun j => (upd r 0 (f (19 * M))) (27 + j)) (va_cpy f (fun j => (upd r 0 (f (19 * M))) (33 + j)) (cl (nI (19 * M + 7))) (cl 0) (cl 6)) (va_cpy f (fun j => (upd r 0 (f (19 * M))) (39 + j)) (cl (nI (19 * M + 13))) (cl 0) (cl 6)) ++ [])) := vD_perm (pm_swap _ _ _) hD
      exact ret_rwv hx hb hr hlk (kP_app.mpr ⟨(kP_app.mp hP).1, kP_new (tk_to hM) (kP_app.mp hP).2⟩) hS dX3_takeBack_98
    · skip
      have c2' := Int32.not_le.mp c2
      exact absurd (show nI (M + 1) ≤ nI 8 from nI_le (by omega) (by omega)) c2
