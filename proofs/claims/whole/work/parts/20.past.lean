theorem ckX3_empty : ckV yX3_empty cX3_empty 1 none 0 := ⟨(gw_in m_335 rfl), (gw_in m_65 rfl), ⟨(gw_in m_333 rfl), (gw_in m_334 rfl)⟩, by decide +kernel, by decide +kernel, by decide +kernel⟩
theorem ckX3_copyOf : ckV yX3_copyOf cX3_copyOf 2 none 1 := ⟨(gw_in m_908 rfl), (gw_in m_65 rfl), ⟨(gw_in m_906 rfl), (gw_in m_907 rfl)⟩, by decide +kernel, by decide +kernel, by decide +kernel⟩
theorem ckX3_dropOldest : ckV yX3_dropOldest cX3_dropOldest 1 none 0 := ⟨(gw_in m_586 rfl), (gw_in m_65 rfl), ⟨(gw_in m_585 rfl), (gw_in m_19 rfl)⟩, by decide +kernel, by decide +kernel, by decide +kernel⟩
set_option maxHeartbeats 4000000 in
set_option maxRecDepth 100000 in
theorem kX3_empty (l : Launch) (g : gG) (a : Nat → Nat) (N : Nat) (f : Nat → Int32)  : Met l yX3_empty (.code yX3_empty cX3_empty 1 none :: gw) (rmN 0) (va_Pc [.ref (a 0)] (rwPre g (pW g a N f ++ []))) (rwQv g (pW g a N f ++ []) (pW g a 0 f ++ [])) 0 0 (dm (pW g a N f ++ [])) := by
  refine met_start (by decide) (Nat.le_of_ble_eq_true rfl) ?_
  intro pp ee ss mm bl mt cd hC hpre ls hl
  obtain ⟨⟨hx, hb, hml, hown, hts⟩, hr, hlk, hnm⟩ := id hC
  have hl : lv_has ls 1 [(0, .ref (a 0))] := hl
  obtain ⟨hP, hK, hD⟩ := hpre
  have hS : va_S (dm (pW g a N f ++ [])) ss.heap ss.heap [] := va_S.rf
  have hD := vD_self hD
  refine lv_aload_n hx hb dX3_empty_0 rfl (lv_at hl 0 rfl) ?_
  refine lv_iconst (v := 0) hx hb dX3_empty_1 rfl ?_
  refine kput (B' := pW g a 0 f) hC.1 hK hP hD hS 0 rfl rfl in_3 tyX3 tyX3_ok nmX3 0 (by decide) (gw_in m_149 rfl) rfl (ty := .int) (by decide +kernel) rfl rfl (Nat.le_of_ble_eq_true rfl) (fun _ h => h) pW_adr dX3_empty_2 (fun H locs hP hD hS => ?_)
  exact ret_rwv hx hb hr hlk (hP) hS dX3_empty_5
set_option maxHeartbeats 4000000 in
set_option maxRecDepth 100000 in
theorem kX3_copyOf (l : Launch) (g : gG) (a b : Nat → Nat) (N N2 : Nat) (f f2 : Nat → Int32) : Met l yX3_copyOf (.code yX3_copyOf cX3_copyOf 2 none :: gw) (rmN 1) (va_Pc [.ref (a 0), .ref (b 0)] (rwPre g (pW g a N f ++ (pW g b N2 f2 ++ [])))) (rwQv g (pW g a N f ++ (pW g b N2 f2 ++ [])) (pW g a N2 f2 ++ (pW g b N2 f2 ++ []))) 0 0 (dm (pW g a N f ++ (pW g b N2 f2 ++ []))) := by
  refine met_start (by decide) (Nat.le_of_ble_eq_true rfl) ?_
  intro pp ee ss mm bl mt cd hC hpre ls hl
  obtain ⟨⟨hx, hb, hml, hown, hts⟩, hr, hlk, hnm⟩ := id hC
  have hl : lv_has ls 2 [(0, .ref (a 0)), (1, .ref (b 0))] := hl
  obtain ⟨hP, hK, hD⟩ := hpre
  have hS : va_S (dm (pW g a N f ++ (pW g b N2 f2 ++ []))) ss.heap ss.heap [] := va_S.rf
  have hD := vD_self hD
  refine lv_aload_n hx hb dX3_copyOf_0 rfl (lv_at hl 0 rfl) ?_
  refine lv_aload_n hx hb dX3_copyOf_1 rfl (lv_at hl 1 rfl) ?_
  refine kget hC.1 hK (kP_app.mp (kP_app.mp hP).2).1 0 rfl rfl in_3 0 (by decide) (gw_in m_149 rfl) rfl dX3_copyOf_2 ?_
  refine kput (B' := pW g a N2 f) hC.1 hK hP hD hS 0 rfl rfl in_3 tyX3 tyX3_ok nmX3 0 (by decide) (gw_in m_149 rfl) rfl (ty := .int) (by decide +kernel) rfl rfl (Nat.le_of_ble_eq_true rfl) (fun _ h => h) pW_adr dX3_copyOf_5 (fun H locs hP hD hS => ?_)
  refine lv_aload_n hx hb dX3_copyOf_8 rfl (lv_at hl 1 rfl) ?_
  refine kget hC.1 hK (kP_app.mp (kP_app.mp hP).2).1 0 rfl rfl in_3 1 (by decide) (gw_in m_151 rfl) rfl dX3_copyOf_9 ?_
  refine lv_iconst (v := 0) hx hb dX3_copyOf_12 rfl ?_
  refine lv_aload_n hx hb dX3_copyOf_13 rfl (lv_at hl 0 rfl) ?_
  refine kget hC.1 hK (kP_app.mp hP).1 0 rfl rfl in_3 1 (by decide) (gw_in m_151 rfl) rfl dX3_copyOf_14 ?_
  refine lv_iconst (v := 0) hx hb dX3_copyOf_17 rfl ?_
  refine lv_sipush (v := 152) hx hb dX3_copyOf_18 rfl ?_
  refine kcpy (B' := pW g a N2 (va_cpy f2 f (cl 0) (cl 0) (cl 152))) hC.1 (hml.trans hl.1.symm) hK hP hD hS 3 1 (app_get2 (k := 1) rfl rfl) rfl (hts _ (gw_in m_587 rfl)) (hts _ (gw_in m_559 rfl)) (hts _ (gw_in m_558 rfl)) (hts _ (gw_in m_77 rfl)) (by decide) (by decide) (by decide) (by decide) (by decide) (fun _ h => h) pW_adr (Nat.le_of_ble_eq_true rfl) (Nat.le_of_ble_eq_true rfl) dX3_copyOf_21 (fun H locs hP hD hS => ?_)
  have hP : kP g (pW g a N2 f2 ++ (pW g b N2 f2 ++ [])) _ := kP_new (pW_arr1 (fun j hj => cpy_all (n := 152) hj)) hP
  have hD : va_D _ (pW g a N2 f2 ++ (pW g b N2 f2 ++ [])) := vD_adr (adr_app pW_adr rfl) hD
  exact ret_rwv hx hb hr hlk (hP) hS dX3_copyOf_24
set_option maxHeartbeats 4000000 in
set_option maxRecDepth 100000 in
theorem kX3_dropOldest (l : Launch) (g : gG) (a : Nat → Nat) (N : Nat) (f : Nat → Int32)  : Met l yX3_dropOldest (.code yX3_dropOldest cX3_dropOldest 1 none :: gw) (rmN 1) (va_Pc [.ref (a 0)] (rwPre g (pW g a N f ++ []))) (rwQv g (pW g a N f ++ []) (pW g a 7 (va_cpy f f 19 0 133) ++ [])) 0 0 (dm (pW g a N f ++ [])) := by
  refine met_start (by decide) (Nat.le_of_ble_eq_true rfl) ?_
  intro pp ee ss mm bl mt cd hC hpre ls hl
  obtain ⟨⟨hx, hb, hml, hown, hts⟩, hr, hlk, hnm⟩ := id hC
  have hl : lv_has ls 1 [(0, .ref (a 0))] := hl
  obtain ⟨hP, hK, hD⟩ := hpre
  have hS : va_S (dm (pW g a N f ++ [])) ss.heap ss.heap [] := va_S.rf
  have hD := vD_self hD
  refine lv_aload_n hx hb dX3_dropOldest_0 rfl (lv_at hl 0 rfl) ?_
  refine kget hC.1 hK (kP_app.mp hP).1 0 rfl rfl in_3 1 (by decide) (gw_in m_151 rfl) rfl dX3_dropOldest_1 ?_
  refine lv_bipush (v := 19) hx hb dX3_dropOldest_4 rfl ?_
  refine lv_aload_n hx hb dX3_dropOldest_6 rfl (lv_at hl 0 rfl) ?_
  refine kget hC.1 hK (kP_app.mp hP).1 0 rfl rfl in_3 1 (by decide) (gw_in m_151 rfl) rfl dX3_dropOldest_7 ?_
  refine lv_iconst (v := 0) hx hb dX3_dropOldest_10 rfl ?_
  refine lv_sipush (v := 133) hx hb dX3_dropOldest_11 rfl ?_
  refine kcpy (B' := pW g a N (va_cpy f f (cl 19) (cl 0) (cl 133))) hC.1 (hml.trans hl.1.symm) hK hP hD hS 1 1 (app_get rfl) rfl (hts _ (gw_in m_587 rfl)) (hts _ (gw_in m_559 rfl)) (hts _ (gw_in m_558 rfl)) (hts _ (gw_in m_77 rfl)) (by decide) (by decide) (by decide) (by decide) (by decide) (fun _ h => h) pW_adr (Nat.le_of_ble_eq_true rfl) (Nat.le_of_ble_eq_true rfl) dX3_dropOldest_14 (fun H locs hP hD hS => ?_)
  have hP : kP g (pW g a N (va_cpy f f 19 0 133) ++ []) _ := kP_new (pW_arr1 (fun j hj => by rw [cl19, cl0, cl133])) hP
  have hD : va_D _ (pW g a N (va_cpy f f 19 0 133) ++ []) := vD_adr (adr_app pW_adr rfl) hD
  refine lv_aload_n hx hb dX3_dropOldest_17 rfl (lv_at hl 0 rfl) ?_
  refine lv_bipush (v := 7) hx hb dX3_dropOldest_18 rfl ?_
  refine kput (B' := pW g a 7 (va_cpy f f 19 0 133)) hC.1 hK hP hD hS 0 rfl rfl in_3 tyX3 tyX3_ok nmX3 0 (by decide) (gw_in m_149 rfl) rfl (ty := .int) (by decide +kernel) rfl rfl (Nat.le_of_ble_eq_true rfl) (fun _ h => h) pW_adr dX3_dropOldest_20 (fun H locs hP hD hS => ?_)
  exact ret_rwv hx hb hr hlk (hP) hS dX3_dropOldest_23
