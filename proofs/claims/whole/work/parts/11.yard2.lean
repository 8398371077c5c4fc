theorem ckX0_cracks : ckS yX0_cracks cX0_cracks 8 (some .int) 5 := ⟨(gw_in m_540 rfl), (gw_in m_76 rfl), (gw_in m_539 rfl), by decide +kernel, by decide +kernel, by decide +kernel⟩
theorem ckX7_nextForce : ckV yX7_nextForce cX7_nextForce 3 (some .int) 1 := ⟨(gw_in m_517 rfl), (gw_in m_64 rfl), ⟨(gw_in m_516 rfl), (gw_in m_14 rfl)⟩, by decide +kernel, by decide +kernel, by decide +kernel⟩
theorem ckX7_crackBy : ckV yX7_crackBy cX7_crackBy 4 none 2 := ⟨(gw_in m_537 rfl), (gw_in m_64 rfl), ⟨(gw_in m_536 rfl), (gw_in m_15 rfl)⟩, by decide +kernel, by decide +kernel, by decide +kernel⟩
theorem ckX7_addPlayer : ckV yX7_addPlayer cX7_addPlayer 3 (some .int) 2 := ⟨(gw_in m_351 rfl), (gw_in m_64 rfl), ⟨(gw_in m_349 rfl), (gw_in m_350 rfl)⟩, by decide +kernel, by decide +kernel, by decide +kernel⟩
theorem ckX7_addNut : ckV yX7_addNut cX7_addNut 5 (some .int) 4 := ⟨(gw_in m_363 rfl), (gw_in m_64 rfl), ⟨(gw_in m_361 rfl), (gw_in m_362 rfl)⟩, by decide +kernel, by decide +kernel, by decide +kernel⟩
theorem ckX7_makeHard : ckV yX7_makeHard cX7_makeHard 3 none 2 := ⟨(gw_in m_722 rfl), (gw_in m_64 rfl), ⟨(gw_in m_720 rfl), (gw_in m_721 rfl)⟩, by decide +kernel, by decide +kernel, by decide +kernel⟩
theorem in_bd {x : Int32} {n : Nat} (h : bd x 0 n) : vp_in x (n + 1) := by
  rw [vp_in_iff]; unfold bd at h; omega
set_option maxHeartbeats 4000000 in
set_option maxRecDepth 100000 in
theorem kX0_cracks (l : Launch) (k h c f t : Int32) (hh : bd h 0 9) (hf : bd f 0 44) : Met l yX0_cracks (.code yX0_cracks cX0_cracks 8 (some .int) :: gw) (rmN 1) (va_Pc [.int (k), .int (h), .int (c), .int (f), .int (t)] (fun _ => True)) (vp_Si (fun v => v = (crk k h c f t))) 0 0 (fun _ => False) := by
  refine met_start (by decide) (Nat.le_of_ble_eq_true rfl) ?_
  intro pp ee ss mm bl mt cd hC hpre ls hl
  obtain ⟨⟨hx, hb, hml, hown, hts⟩, hr, hlk, hnm⟩ := id hC
  have hl : lv_has ls 8 [(0, .int (k)), (1, .int (h)), (2, .int (c)), (3, .int (f)), (4, .int (t))] := hl
  refine lv_iconst (v := 0) hx hb dX0_cracks_0 rfl ?_
  refine lv_iload_n hx hb dX0_cracks_1 rfl (lv_at hl 3 rfl) ?_
  refine lv_iload_n hx hb dX0_cracks_2 rfl (lv_at hl 1 rfl) ?_
  refine lv_isub hx hb dX0_cracks_3 ?_
  refine va_mmax hx hb (hml.trans hl.1.symm) hown (hts _ (gw_in m_527 rfl)) (hts _ (gw_in m_528 rfl)) (hts _ (gw_in m_67 rfl)) (hts _ (gw_in m_529 rfl)) (Nat.le_of_ble_eq_true rfl) (Nat.le_of_ble_eq_true rfl) (Nat.le_of_ble_eq_true rfl) (Nat.le_of_ble_eq_true rfl) dX0_cracks_4 ?_
  refine top_i (x := if 0 < f - h then f - h else 0) (y := plainF h f) (plain_eq hh hf) ?_
  refine lv_istore (lv' := [(5, .int (plainF h f)), (0, .int (k)), (1, .int (h)), (2, .int (c)), (3, .int (f)), (4, .int (t))]) hx hb dX0_cracks_7 hl (by decide) rfl (fun ls hl => ?_)
  refine lv_iload hx hb dX0_cracks_9 (lv_at hl 0 rfl) ?_
  refine lv_iconst (v := 2) hx hb dX0_cracks_11 rfl ?_
  refine lv_idiv hx hb dX0_cracks_12 (by decide) ?_
  refine lv_istore (lv' := [(6, .int ((plainF h f) / 2)), (5, .int (plainF h f)), (0, .int (k)), (1, .int (h)), (2, .int (c)), (3, .int (f)), (4, .int (t))]) hx hb dX0_cracks_13 hl (by decide) rfl (fun ls hl => ?_)
  refine lv_iload_n hx hb dX0_cracks_15 rfl (lv_at hl 5 rfl) ?_
  refine lv_iload_n hx hb dX0_cracks_16 rfl (lv_at hl 3 rfl) ?_
  refine lv_icmp_le (tgt := 27) hx hb dX0_cracks_17 (by decide) (fun c1 => ?_) (fun c1 => ?_)
  · skip
    have c1' := Int32.not_lt.mpr c1
    refine lv_iload hx hb dX0_cracks_27 (lv_at hl 1 rfl) ?_
    refine lv_istore (lv' := [(7, .int (plainF h f)), (6, .int ((plainF h f) / 2)), (5, .int (plainF h f)), (0, .int (k)), (1, .int (h)), (2, .int (c)), (3, .int (f)), (4, .int (t))]) hx hb dX0_cracks_29 hl (by decide) rfl (fun ls hl => ?_)
    refine lv_iload_n hx hb dX0_cracks_31 rfl (lv_at hl 3 rfl) ?_
    by_cases k2 : k = 1
    · skip
      refine lv_tableIn (x := k) (tgt := 68) hx hb dX0_cracks_32 (by rw [k2]; decide) (by rw [k2]; decide) (by rw [k2]; rfl) (by decide) ?_
      refine lv_iload hx hb dX0_cracks_68 (lv_at hl 1 rfl) ?_
      exact ret_roi hx hb hr hlk (by first | (simp [crk, bakedF, plainF, Int32.not_le, Int32.not_lt, c1, c1', k2]; done) | (exact absurd (show plainF h f = 0 from if_neg (by assumption)) (by assumption)) | (clear hx hb hr hlk hnm hml hown hts hC hl; simp_all [crk, bakedF, plainF, Int32.not_le, Int32.not_lt])) dX0_cracks_70
    by_cases k3 : k = 2
    · skip
      refine lv_tableIn (x := k) (tgt := 71) hx hb dX0_cracks_32 (by rw [k3]; decide) (by rw [k3]; decide) (by rw [k3]; rfl) (by decide) ?_
      refine lv_iload hx hb dX0_cracks_71 (lv_at hl 0 rfl) ?_
      exact ret_roi hx hb hr hlk (by first | (simp [crk, bakedF, plainF, Int32.not_le, Int32.not_lt, c1, c1', k3]; done) | (exact absurd (show plainF h f = 0 from if_neg (by assumption)) (by assumption)) | (clear hx hb hr hlk hnm hml hown hts hC hl; simp_all [crk, bakedF, plainF, Int32.not_le, Int32.not_lt])) dX0_cracks_73
    by_cases k4 : k = 3
    · skip
      refine lv_tableIn (x := k) (tgt := 74) hx hb dX0_cracks_32 (by rw [k4]; decide) (by rw [k4]; decide) (by rw [k4]; rfl) (by decide) ?_
      refine lv_iconst (v := 2) hx hb dX0_cracks_74 rfl ?_
      refine lv_iload hx hb dX0_cracks_75 (lv_at hl 1 rfl) ?_
      refine va_mmin hx hb (hml.trans hl.1.symm) hown (hts _ (gw_in m_541 rfl)) (hts _ (gw_in m_164 rfl)) (hts _ (gw_in m_67 rfl)) (hts _ (gw_in m_165 rfl)) (Nat.le_of_ble_eq_true rfl) (Nat.le_of_ble_eq_true rfl) (Nat.le_of_ble_eq_true rfl) (Nat.le_of_ble_eq_true rfl) dX0_cracks_77 ?_
      refine top_i (x := if (plainF h f) / 2 < 2 then (plainF h f) / 2 else 2) (y := if 2 < plainF h f / 2 then 2 else plainF h f / 2) min_eq ?_
      exact ret_roi hx hb hr hlk (by first | (simp [crk, bakedF, plainF, Int32.not_le, Int32.not_lt, c1, c1', k4]; done) | (exact absurd (show plainF h f = 0 from if_neg (by assumption)) (by assumption)) | (clear hx hb hr hlk hnm hml hown hts hC hl; simp_all [crk, bakedF, plainF, Int32.not_le, Int32.not_lt])) dX0_cracks_80
    by_cases k5 : k = 4
    · skip
      refine lv_tableIn (x := k) (tgt := 81) hx hb dX0_cracks_32 (by rw [k5]; decide) (by rw [k5]; decide) (by rw [k5]; rfl) (by decide) ?_
      refine lv_iload hx hb dX0_cracks_81 (lv_at hl 0 rfl) ?_
      refine lv_if_ne (tgt := 90) hx hb dX0_cracks_83 (by decide) (fun c6 => ?_) (fun c6 => ?_)
      · skip
        refine lv_iload hx hb dX0_cracks_90 (lv_at hl 0 rfl) ?_
        refine lv_iload_n hx hb dX0_cracks_92 rfl (lv_at hl 5 rfl) ?_
        refine lv_iadd hx hb dX0_cracks_93 ?_
        exact ret_roi hx hb hr hlk (by first | (simp [crk, bakedF, plainF, Int32.not_le, Int32.not_lt, c1, c1', k5, c6]; done) | (exact absurd (show plainF h f = 0 from if_neg (by assumption)) (by assumption)) | (clear hx hb hr hlk hnm hml hown hts hC hl; simp_all [crk, bakedF, plainF, Int32.not_le, Int32.not_lt])) dX0_cracks_94
      · skip
        refine lv_iconst (v := 0) hx hb dX0_cracks_86 rfl ?_
        refine lv_goto (tgt := 94) hx hb dX0_cracks_87 (by decide) ?_
        exact ret_roi hx hb hr hlk (by first | (simp [crk, bakedF, plainF, Int32.not_le, Int32.not_lt, c1, c1', k5, c6]; done) | (exact absurd (show plainF h f = 0 from if_neg (by assumption)) (by assumption)) | (clear hx hb hr hlk hnm hml hown hts hC hl; simp_all [crk, bakedF, plainF, Int32.not_le, Int32.not_lt])) dX0_cracks_94
    by_cases k7 : k = 5
    · skip
      refine lv_tableIn (x := k) (tgt := 95) hx hb dX0_cracks_32 (by rw [k7]; decide) (by rw [k7]; decide) (by rw [k7]; rfl) (by decide) ?_
      refine lv_iload hx hb dX0_cracks_95 (lv_at hl 7 rfl) ?_
      refine lv_iconst (v := 2) hx hb dX0_cracks_97 rfl ?_
      refine lv_irem hx hb dX0_cracks_98 (by decide) ?_
      refine lv_iconst (v := 1) hx hb dX0_cracks_99 rfl ?_
      refine lv_icmp_ne (tgt := 114) hx hb dX0_cracks_100 (by decide) (fun c8 => ?_) (fun c8 => ?_)
      · skip
        refine lv_iload hx hb dX0_cracks_114 (lv_at hl 2 rfl) ?_
        exact ret_roi hx hb hr hlk (by first | (simp [crk, bakedF, plainF, Int32.not_le, Int32.not_lt, c1, c1', k7, c8]; done) | (exact absurd (show plainF h f = 0 from if_neg (by assumption)) (by assumption)) | (clear hx hb hr hlk hnm hml hown hts hC hl; simp_all [crk, bakedF, plainF, Int32.not_le, Int32.not_lt])) dX0_cracks_116
      · skip
        refine lv_iconst (v := 0) hx hb dX0_cracks_103 rfl ?_
        refine lv_iload hx hb dX0_cracks_104 (lv_at hl 2 rfl) ?_
        refine lv_iconst (v := 1) hx hb dX0_cracks_106 rfl ?_
        refine lv_isub hx hb dX0_cracks_107 ?_
        refine va_mmax hx hb (hml.trans hl.1.symm) hown (hts _ (gw_in m_527 rfl)) (hts _ (gw_in m_528 rfl)) (hts _ (gw_in m_67 rfl)) (hts _ (gw_in m_529 rfl)) (Nat.le_of_ble_eq_true rfl) (Nat.le_of_ble_eq_true rfl) (Nat.le_of_ble_eq_true rfl) (Nat.le_of_ble_eq_true rfl) dX0_cracks_108 ?_
        refine top_i (x := if 0 < (plainF h f) - 1 then (plainF h f) - 1 else 0) (y := if 0 < plainF h f then plainF h f - 1 else plainF h f) (damp_eq hh hf) ?_
        refine lv_goto (tgt := 116) hx hb dX0_cracks_111 (by decide) ?_
        exact ret_roi hx hb hr hlk (by first | (simp [crk, bakedF, plainF, Int32.not_le, Int32.not_lt, c1, c1', k7, c8]; done) | (exact absurd (show plainF h f = 0 from if_neg (by assumption)) (by assumption)) | (clear hx hb hr hlk hnm hml hown hts hC hl; simp_all [crk, bakedF, plainF, Int32.not_le, Int32.not_lt])) dX0_cracks_116
    refine lv_tableOut (tgt := 117) hx hb dX0_cracks_32 (sw_out1_5 k2 k3 k4 k5 k7) (by decide) ?_
    refine lv_iload hx hb dX0_cracks_117 (lv_at hl 2 rfl) ?_
    exact ret_roi hx hb hr hlk (by first | (simp [crk, bakedF, plainF, Int32.not_le, Int32.not_lt, c1, c1', k2, k3, k4, k5, k7]; done) | (exact absurd (show plainF h f = 0 from if_neg (by assumption)) (by assumption)) | (clear hx hb hr hlk hnm hml hown hts hC hl; simp_all [crk, bakedF, plainF, Int32.not_le, Int32.not_lt])) dX0_cracks_119
  · skip
    have c1' := Int32.not_le.mp c1
    refine lv_iload hx hb dX0_cracks_20 (lv_at hl 1 rfl) ?_
    refine lv_iconst (v := 2) hx hb dX0_cracks_22 rfl ?_
    refine lv_iadd hx hb dX0_cracks_23 ?_
    refine lv_goto (tgt := 29) hx hb dX0_cracks_24 (by decide) ?_
    refine lv_istore (lv' := [(7, .int ((plainF h f) + 2)), (6, .int ((plainF h f) / 2)), (5, .int (plainF h f)), (0, .int (k)), (1, .int (h)), (2, .int (c)), (3, .int (f)), (4, .int (t))]) hx hb dX0_cracks_29 hl (by decide) rfl (fun ls hl => ?_)
    refine lv_iload_n hx hb dX0_cracks_31 rfl (lv_at hl 3 rfl) ?_
    by_cases k9 : k = 1
    · skip
      refine lv_tableIn (x := k) (tgt := 68) hx hb dX0_cracks_32 (by rw [k9]; decide) (by rw [k9]; decide) (by rw [k9]; rfl) (by decide) ?_
      refine lv_iload hx hb dX0_cracks_68 (lv_at hl 1 rfl) ?_
      exact ret_roi hx hb hr hlk (by first | (simp [crk, bakedF, plainF, Int32.not_le, Int32.not_lt, c1, c1', k9]; done) | (exact absurd (show plainF h f = 0 from if_neg (by assumption)) (by assumption)) | (clear hx hb hr hlk hnm hml hown hts hC hl; simp_all [crk, bakedF, plainF, Int32.not_le, Int32.not_lt])) dX0_cracks_70
    by_cases k10 : k = 2
    · skip
      refine lv_tableIn (x := k) (tgt := 71) hx hb dX0_cracks_32 (by rw [k10]; decide) (by rw [k10]; decide) (by rw [k10]; rfl) (by decide) ?_
      refine lv_iload hx hb dX0_cracks_71 (lv_at hl 0 rfl) ?_
      exact ret_roi hx hb hr hlk (by first | (simp [crk, bakedF, plainF, Int32.not_le, Int32.not_lt, c1, c1', k10]; done) | (exact absurd (show plainF h f = 0 from if_neg (by assumption)) (by assumption)) | (clear hx hb hr hlk hnm hml hown hts hC hl; simp_all [crk, bakedF, plainF, Int32.not_le, Int32.not_lt])) dX0_cracks_73
    by_cases k11 : k = 3
    · skip
      refine lv_tableIn (x := k) (tgt := 74) hx hb dX0_cracks_32 (by rw [k11]; decide) (by rw [k11]; decide) (by rw [k11]; rfl) (by decide) ?_
      refine lv_iconst (v := 2) hx hb dX0_cracks_74 rfl ?_
      refine lv_iload hx hb dX0_cracks_75 (lv_at hl 1 rfl) ?_
      refine va_mmin hx hb (hml.trans hl.1.symm) hown (hts _ (gw_in m_541 rfl)) (hts _ (gw_in m_164 rfl)) (hts _ (gw_in m_67 rfl)) (hts _ (gw_in m_165 rfl)) (Nat.le_of_ble_eq_true rfl) (Nat.le_of_ble_eq_true rfl) (Nat.le_of_ble_eq_true rfl) (Nat.le_of_ble_eq_true rfl) dX0_cracks_77 ?_
      refine top_i (x := if (plainF h f) / 2 < 2 then (plainF h f) / 2 else 2) (y := if 2 < plainF h f / 2 then 2 else plainF h f / 2) min_eq ?_
      exact ret_roi hx hb hr hlk (by first | (simp [crk, bakedF, plainF, Int32.not_le, Int32.not_lt, c1, c1', k11]; done) | (exact absurd (show plainF h f = 0 from if_neg (by assumption)) (by assumption)) | (clear hx hb hr hlk hnm hml hown hts hC hl; simp_all [crk, bakedF, plainF, Int32.not_le, Int32.not_lt])) dX0_cracks_80
    by_cases k12 : k = 4
    · skip
      refine lv_tableIn (x := k) (tgt := 81) hx hb dX0_cracks_32 (by rw [k12]; decide) (by rw [k12]; decide) (by rw [k12]; rfl) (by decide) ?_
      refine lv_iload hx hb dX0_cracks_81 (lv_at hl 0 rfl) ?_
      refine lv_if_ne (tgt := 90) hx hb dX0_cracks_83 (by decide) (fun c13 => ?_) (fun c13 => ?_)
      · skip
        refine lv_iload hx hb dX0_cracks_90 (lv_at hl 0 rfl) ?_
        refine lv_iload_n hx hb dX0_cracks_92 rfl (lv_at hl 5 rfl) ?_
        refine lv_iadd hx hb dX0_cracks_93 ?_
        exact ret_roi hx hb hr hlk (by first | (simp [crk, bakedF, plainF, Int32.not_le, Int32.not_lt, c1, c1', k12, c13]; done) | (exact absurd (show plainF h f = 0 from if_neg (by assumption)) (by assumption)) | (clear hx hb hr hlk hnm hml hown hts hC hl; simp_all [crk, bakedF, plainF, Int32.not_le, Int32.not_lt])) dX0_cracks_94
      · skip
        refine lv_iconst (v := 0) hx hb dX0_cracks_86 rfl ?_
        refine lv_goto (tgt := 94) hx hb dX0_cracks_87 (by decide) ?_
        exact ret_roi hx hb hr hlk (by first | (simp [crk, bakedF, plainF, Int32.not_le, Int32.not_lt, c1, c1', k12, c13]; done) | (exact absurd (show plainF h f = 0 from if_neg (by assumption)) (by assumption)) | (clear hx hb hr hlk hnm hml hown hts hC hl; simp_all [crk, bakedF, plainF, Int32.not_le, Int32.not_lt])) dX0_cracks_94
    by_cases k14 : k = 5
    · skip
      refine lv_tableIn (x := k) (tgt := 95) hx hb dX0_cracks_32 (by rw [k14]; decide) (by rw [k14]; decide) (by rw [k14]; rfl) (by decide) ?_
      refine lv_iload hx hb dX0_cracks_95 (lv_at hl 7 rfl) ?_
      refine lv_iconst (v := 2) hx hb dX0_cracks_97 rfl ?_
      refine lv_irem hx hb dX0_cracks_98 (by decide) ?_
      refine lv_iconst (v := 1) hx hb dX0_cracks_99 rfl ?_
      refine lv_icmp_ne (tgt := 114) hx hb dX0_cracks_100 (by decide) (fun c15 => ?_) (fun c15 => ?_)
      · skip
        refine lv_iload hx hb dX0_cracks_114 (lv_at hl 2 rfl) ?_
        exact ret_roi hx hb hr hlk (by first | (simp [crk, bakedF, plainF, Int32.not_le, Int32.not_lt, c1, c1', k14, c15]; done) | (exact absurd (show plainF h f = 0 from if_neg (by assumption)) (by assumption)) | (clear hx hb hr hlk hnm hml hown hts hC hl; simp_all [crk, bakedF, plainF, Int32.not_le, Int32.not_lt])) dX0_cracks_116
      · skip
        refine lv_iconst (v := 0) hx hb dX0_cracks_103 rfl ?_
        refine lv_iload hx hb dX0_cracks_104 (lv_at hl 2 rfl) ?_
        refine lv_iconst (v := 1) hx hb dX0_cracks_106 rfl ?_
        refine lv_isub hx hb dX0_cracks_107 ?_
        refine va_mmax hx hb (hml.trans hl.1.symm) hown (hts _ (gw_in m_527 rfl)) (hts _ (gw_in m_528 rfl)) (hts _ (gw_in m_67 rfl)) (hts _ (gw_in m_529 rfl)) (Nat.le_of_ble_eq_true rfl) (Nat.le_of_ble_eq_true rfl) (Nat.le_of_ble_eq_true rfl) (Nat.le_of_ble_eq_true rfl) dX0_cracks_108 ?_
        refine top_i (x := if 0 < (plainF h f) - 1 then (plainF h f) - 1 else 0) (y := if 0 < plainF h f then plainF h f - 1 else plainF h f) (damp_eq hh hf) ?_
        refine lv_goto (tgt := 116) hx hb dX0_cracks_111 (by decide) ?_
        exact ret_roi hx hb hr hlk (by first | (simp [crk, bakedF, plainF, Int32.not_le, Int32.not_lt, c1, c1', k14, c15]; done) | (exact absurd (show plainF h f = 0 from if_neg (by assumption)) (by assumption)) | (clear hx hb hr hlk hnm hml hown hts hC hl; simp_all [crk, bakedF, plainF, Int32.not_le, Int32.not_lt])) dX0_cracks_116
    refine lv_tableOut (tgt := 117) hx hb dX0_cracks_32 (sw_out1_5 k9 k10 k11 k12 k14) (by decide) ?_
    refine lv_iload hx hb dX0_cracks_117 (lv_at hl 2 rfl) ?_
    exact ret_roi hx hb hr hlk (by first | (simp [crk, bakedF, plainF, Int32.not_le, Int32.not_lt, c1, c1', k9, k10, k11, k12, k14]; done) | (exact absurd (show plainF h f = 0 from if_neg (by assumption)) (by assumption)) | (clear hx hb hr hlk hnm hml hown hts hC hl; simp_all [crk, bakedF, plainF, Int32.not_le, Int32.not_lt])) dX0_cracks_119
set_option maxHeartbeats 4000000 in
set_option maxRecDepth 100000 in
theorem kX7_nextForce (l : Launch) (g : gG) (a : Nat → Nat) (r : Nat → Int32) (i : Int32) (hw : Wf r) : Met l yX7_nextForce (.code yX7_nextForce cX7_nextForce 3 (some .int) :: gw) (rmN 2) (va_Pc [.ref (a 0), .int (i)] (roPre g (yW g a r))) (vp_Si (fun v => v = (if yNut r i = true then fo r i (yNext r) else 0))) 0 0 (fun _ => False) := by
  refine met_start (by decide) (Nat.le_of_ble_eq_true rfl) ?_
  intro pp ee ss mm bl mt cd hC hpre ls hl
  obtain ⟨⟨hx, hb, hml, hown, hts⟩, hr, hlk, hnm⟩ := id hC
  have hl : lv_has ls 3 [(0, .ref (a 0)), (1, .int (i))] := hl
  obtain ⟨hP, hK⟩ := hpre
  refine lv_aload_n hx hb dX7_nextForce_0 rfl (lv_at hl 0 rfl) ?_
  refine lv_iload_n hx hb dX7_nextForce_1 rfl (lv_at hl 1 rfl) ?_
  refine ro_i (run_V (As := [.int (i)]) (rest := []) hC.1 ckX7_isNut (kX7_isNut l g a r i) (gw_in m_502 rfl) (fb_ro _ _ _) (va_recv hK.1 hP (q0 := 0) rfl rfl) (fun U hU hW => ⟨by rw [hU]; exact hP, kK_warm hW hK⟩) ⟨rfl, rfl, Nat.le_of_ble_eq_true rfl, Nat.le_of_ble_eq_true rfl⟩ rfl hl.1 rfl (Nat.le_of_ble_eq_true rfl) dX7_nextForce_2 ⟨Nat.le_of_ble_eq_true rfl, Nat.le_of_ble_eq_true rfl⟩) ?_
  refine lv_if_eq (tgt := 21) hx hb dX7_nextForce_5 (by decide) (fun c1 => ?_) (fun c1 => ?_)
  · skip
    have c1 := b2i_0 c1
    refine lv_iconst (v := 0) hx hb dX7_nextForce_21 rfl ?_
    exact ret_roi hx hb hr hlk (by first | (simp [fo, c1]; done)) dX7_nextForce_22
  · skip
    have c1 := b2i_1 c1
    refine lv_aload_n hx hb dX7_nextForce_8 rfl (lv_at hl 0 rfl) ?_
    refine lv_aload_n hx hb dX7_nextForce_9 rfl (lv_at hl 0 rfl) ?_
    refine kget hC.1 hK hP 0 rfl rfl in_7 5 (by decide) (gw_in m_110 rfl) rfl dX7_nextForce_10 ?_
    refine lv_iload_n hx hb dX7_nextForce_13 rfl (lv_at hl 1 rfl) ?_
    refine kald (v := r (9 + cl i)) hC.1 hK hP 3 rfl (yNut_in c1 hw.n6) rfl dX7_nextForce_14 ?_
    refine ro_i (run_V (As := [.int (r (9 + cl i))]) (rest := []) hC.1 ckX7_isPlayer (kX7_isPlayer l g a r (r (9 + cl i))) (gw_in m_518 rfl) (fb_ro _ _ _) (va_recv hK.1 hP (q0 := 0) rfl rfl) (fun U hU hW => ⟨by rw [hU]; exact hP, kK_warm hW hK⟩) ⟨rfl, rfl, Nat.le_of_ble_eq_true rfl, Nat.le_of_ble_eq_true rfl⟩ rfl hl.1 rfl (Nat.le_of_ble_eq_true rfl) dX7_nextForce_15 ⟨Nat.le_of_ble_eq_true rfl, Nat.le_of_ble_eq_true rfl⟩) ?_
    refine lv_if_ne (tgt := 23) hx hb dX7_nextForce_18 (by decide) (fun c2 => ?_) (fun c2 => ?_)
    · skip
      have c2 := b2i_1 c2
      refine lv_aload_n hx hb dX7_nextForce_23 rfl (lv_at hl 0 rfl) ?_
      refine kget hC.1 hK hP 0 rfl rfl in_7 5 (by decide) (gw_in m_110 rfl) rfl dX7_nextForce_24 ?_
      refine lv_iload_n hx hb dX7_nextForce_27 rfl (lv_at hl 1 rfl) ?_
      refine kald (v := r (9 + cl i)) hC.1 hK hP 3 rfl (yNut_in c1 hw.n6) rfl dX7_nextForce_28 ?_
      refine lv_istore_n (lv' := [(2, .int (r (9 + cl i))), (0, .ref (a 0)), (1, .int (i))]) hx hb dX7_nextForce_29 rfl hl (by decide) rfl (fun ls hl => ?_)
      refine lv_aload_n hx hb dX7_nextForce_30 rfl (lv_at hl 1 rfl) ?_
      refine kget hC.1 hK hP 0 rfl rfl in_7 3 (by decide) (gw_in m_108 rfl) rfl dX7_nextForce_31 ?_
      refine lv_iload_n hx hb dX7_nextForce_34 rfl (lv_at hl 0 rfl) ?_
      refine kald (v := r (3 + cl (r (9 + cl i)))) hC.1 hK hP 1 rfl (yPl_in c2 hw.n3) rfl dX7_nextForce_35 ?_
      refine lv_aload_n hx hb dX7_nextForce_36 rfl (lv_at hl 1 rfl) ?_
      refine kget hC.1 hK hP 0 rfl rfl in_7 4 (by decide) (gw_in m_109 rfl) rfl dX7_nextForce_37 ?_
      refine lv_iload_n hx hb dX7_nextForce_40 rfl (lv_at hl 0 rfl) ?_
      refine kald (v := r (6 + cl (r (9 + cl i)))) hC.1 hK hP 2 rfl (yPl_in c2 hw.n3) rfl dX7_nextForce_41 ?_
      refine lv_aload_n hx hb dX7_nextForce_42 rfl (lv_at hl 1 rfl) ?_
      refine kget hC.1 hK hP 0 rfl rfl in_7 8 (by decide) (gw_in m_114 rfl) rfl dX7_nextForce_43 ?_
      refine lv_iload_n hx hb dX7_nextForce_46 rfl (lv_at hl 2 rfl) ?_
      refine kald (v := r (27 + cl i)) hC.1 hK hP 6 rfl (yNut_in c1 hw.n6) rfl dX7_nextForce_47 ?_
      refine lv_aload_n hx hb dX7_nextForce_48 rfl (lv_at hl 1 rfl) ?_
      refine ro_i (run_V (As := []) (rest := [.int (r (27 + cl i)), .int (r (6 + cl (r (9 + cl i)))), .int (r (3 + cl (r (9 + cl i))))]) hC.1 ckX7_nextNumber (kX7_nextNumber l g a r hw.num) (gw_in m_519 rfl) (fb_ro _ _ _) (va_recv hK.1 hP (q0 := 0) rfl rfl) (fun U hU hW => ⟨by rw [hU]; exact hP, kK_warm hW hK⟩) ⟨rfl, rfl, Nat.le_of_ble_eq_true rfl, Nat.le_of_ble_eq_true rfl⟩ rfl hl.1 rfl (Nat.le_of_ble_eq_true rfl) dX7_nextForce_49 ⟨Nat.le_of_ble_eq_true rfl, Nat.le_of_ble_eq_true rfl⟩) ?_
      refine ro_i (run_S (As := [.int (r (3 + cl (r (9 + cl i)))), .int (r (6 + cl (r (9 + cl i)))), .int (r (27 + cl i)), .int (yNext r)]) (rest := []) hC.1 ckX0_force (kX0_force l (r (3 + cl (r (9 + cl i)))) (r (6 + cl (r (9 + cl i)))) (r (27 + cl i)) (yNext r)) (gw_in m_524 rfl) (fb_nil _) (fun _ _ _ => trivial) ⟨rfl, rfl, Nat.le_of_ble_eq_true rfl, Nat.le_of_ble_eq_true rfl⟩ rfl hl.1 rfl (Nat.le_of_ble_eq_true rfl) dX7_nextForce_52 ⟨Nat.le_of_ble_eq_true rfl, Nat.le_of_ble_eq_true rfl⟩) ?_
      exact ret_roi hx hb hr hlk (by first | (simp [fo, c1, c2]; done)) dX7_nextForce_55
    · skip
      have c2 := b2i_0 c2
      exact absurd (hw.own c1) (by rw [c2]; decide)
set_option maxHeartbeats 4000000 in
set_option maxRecDepth 100000 in
theorem kX7_crackBy (l : Launch) (g : gG) (a : Nat → Nat) (r : Nat → Int32) (i f : Int32) (hw : Wf r) (hf : bd f 0 44) : Met l yX7_crackBy (.code yX7_crackBy cX7_crackBy 4 none :: gw) (rmN 2) (va_Pc [.ref (a 0), .int (i), .int (f)] (rwPre g (yW g a r ++ []))) (rwQv g (yW g a r ++ []) (yW g a (if yNut r i = true then upd r (33 + cl i) (crkd r i f (r 0)) else r) ++ [])) 0 0 (dm (yW g a r ++ [])) := by
  refine met_start (by decide) (Nat.le_of_ble_eq_true rfl) ?_
  intro pp ee ss mm bl mt cd hC hpre ls hl
  obtain ⟨⟨hx, hb, hml, hown, hts⟩, hr, hlk, hnm⟩ := id hC
  have hl : lv_has ls 4 [(0, .ref (a 0)), (1, .int (i)), (2, .int (f))] := hl
  obtain ⟨hP, hK, hD⟩ := hpre
  have hS : va_S (dm (yW g a r ++ [])) ss.heap ss.heap [] := va_S.rf
  have hD := vD_self hD
  refine lv_aload_n hx hb dX7_crackBy_0 rfl (lv_at hl 0 rfl) ?_
  refine lv_iload_n hx hb dX7_crackBy_1 rfl (lv_at hl 1 rfl) ?_
  refine ro_i (run_V (As := [.int (i)]) (rest := []) hC.1 ckX7_isNut (kX7_isNut l g a r i) (gw_in m_502 rfl) (fb_ro _ _ _) (va_recv hK.1 (kP_app.mp hP).1 (q0 := 0) rfl rfl) (fun U hU hW => ⟨by rw [hU]; exact (kP_app.mp hP).1, kK_warm hW hK⟩) ⟨rfl, rfl, Nat.le_of_ble_eq_true rfl, Nat.le_of_ble_eq_true rfl⟩ rfl hl.1 rfl (Nat.le_of_ble_eq_true rfl) dX7_crackBy_2 ⟨Nat.le_of_ble_eq_true rfl, Nat.le_of_ble_eq_true rfl⟩) ?_
  refine lv_if_ne (tgt := 9) hx hb dX7_crackBy_5 (by decide) (fun c1 => ?_) (fun c1 => ?_)
  · skip
    have c1 := b2i_1 c1
    refine lv_aload_n hx hb dX7_crackBy_9 rfl (lv_at hl 0 rfl) ?_
    refine kget hC.1 hK (kP_app.mp hP).1 0 rfl rfl in_7 6 (by decide) (gw_in m_112 rfl) rfl dX7_crackBy_10 ?_
    refine lv_iload_n hx hb dX7_crackBy_13 rfl (lv_at hl 1 rfl) ?_
    refine kald (v := r (15 + cl i)) hC.1 hK (kP_app.mp hP).1 4 rfl (yNut_in c1 hw.n6) rfl dX7_crackBy_14 ?_
    refine lv_aload_n hx hb dX7_crackBy_15 rfl (lv_at hl 0 rfl) ?_
    refine kget hC.1 hK (kP_app.mp hP).1 0 rfl rfl in_7 7 (by decide) (gw_in m_113 rfl) rfl dX7_crackBy_16 ?_
    refine lv_iload_n hx hb dX7_crackBy_19 rfl (lv_at hl 1 rfl) ?_
    refine kald (v := r (21 + cl i)) hC.1 hK (kP_app.mp hP).1 5 rfl (yNut_in c1 hw.n6) rfl dX7_crackBy_20 ?_
    refine lv_aload_n hx hb dX7_crackBy_21 rfl (lv_at hl 0 rfl) ?_
    refine kget hC.1 hK (kP_app.mp hP).1 0 rfl rfl in_7 9 (by decide) (gw_in m_115 rfl) rfl dX7_crackBy_22 ?_
    refine lv_iload_n hx hb dX7_crackBy_25 rfl (lv_at hl 1 rfl) ?_
    refine kald (v := r (33 + cl i)) hC.1 hK (kP_app.mp hP).1 7 rfl (yNut_in c1 hw.n6) rfl dX7_crackBy_26 ?_
    refine lv_iload_n hx hb dX7_crackBy_27 rfl (lv_at hl 2 rfl) ?_
    refine lv_aload_n hx hb dX7_crackBy_28 rfl (lv_at hl 0 rfl) ?_
    refine kget hC.1 hK (kP_app.mp hP).1 0 rfl rfl in_7 2 (by decide) (gw_in m_105 rfl) rfl dX7_crackBy_29 ?_
    refine ro_i (run_S (As := [.int (r (15 + cl i)), .int (r (21 + cl i)), .int (r (33 + cl i)), .int (f), .int (r 0)]) (rest := []) hC.1 ckX0_cracks (kX0_cracks l (r (15 + cl i)) (r (21 + cl i)) (r (33 + cl i)) f (r 0) (hw.2.2.2.2.1 _ (yNut_cl hw c1)).2.2.1 hf) (gw_in m_538 rfl) (fb_nil _) (fun _ _ _ => trivial) ⟨rfl, rfl, Nat.le_of_ble_eq_true rfl, Nat.le_of_ble_eq_true rfl⟩ rfl hl.1 rfl (Nat.le_of_ble_eq_true rfl) dX7_crackBy_32 ⟨Nat.le_of_ble_eq_true rfl, Nat.le_of_ble_eq_true rfl⟩) ?_
    refine lv_istore_n (lv' := [(3, .int (crk (r (15 + cl i)) (r (21 + cl i)) (r (33 + cl i)) f (r 0))), (0, .ref (a 0)), (1, .int (i)), (2, .int (f))]) hx hb dX7_crackBy_35 rfl hl (by decide) rfl (fun ls hl => ?_)
    refine lv_aload_n hx hb dX7_crackBy_36 rfl (lv_at hl 1 rfl) ?_
    refine kget hC.1 hK (kP_app.mp hP).1 0 rfl rfl in_7 9 (by decide) (gw_in m_115 rfl) rfl dX7_crackBy_37 ?_
    refine lv_iload_n hx hb dX7_crackBy_40 rfl (lv_at hl 2 rfl) ?_
    refine lv_bipush (v := 10) hx hb dX7_crackBy_41 rfl ?_
    refine lv_aload_n hx hb dX7_crackBy_43 rfl (lv_at hl 1 rfl) ?_
    refine kget hC.1 hK (kP_app.mp hP).1 0 rfl rfl in_7 9 (by decide) (gw_in m_115 rfl) rfl dX7_crackBy_44 ?_
    refine lv_iload_n hx hb dX7_crackBy_47 rfl (lv_at hl 2 rfl) ?_
    refine kald (v := r (33 + cl i)) hC.1 hK (kP_app.mp hP).1 7 rfl (yNut_in c1 hw.n6) rfl dX7_crackBy_48 ?_
    refine lv_iload_n hx hb dX7_crackBy_49 rfl (lv_at hl 0 rfl) ?_
    refine lv_iadd hx hb dX7_crackBy_50 ?_
    refine va_mmin hx hb (hml.trans hl.1.symm) hown (hts _ (gw_in m_523 rfl)) (hts _ (gw_in m_164 rfl)) (hts _ (gw_in m_67 rfl)) (hts _ (gw_in m_165 rfl)) (Nat.le_of_ble_eq_true rfl) (Nat.le_of_ble_eq_true rfl) (Nat.le_of_ble_eq_true rfl) (Nat.le_of_ble_eq_true rfl) dX7_crackBy_51 ?_
    refine top_i (x := if (r (33 + cl i)) + (crk (r (15 + cl i)) (r (21 + cl i)) (r (33 + cl i)) f (r 0)) < 10 then (r (33 + cl i)) + (crk (r (15 + cl i)) (r (21 + cl i)) (r (33 + cl i)) f (r 0)) else 10) (y := crkd r i f (r 0)) min_eq ?_
    refine kast (B' := yW g a (upd r (33 + cl i) (crkd r i f (r 0)))) hC.1 hK hP hD hS 7 rfl (yNut_in c1 hw.n6) (yA7 (yNut_in c1 hw.n6)) yW_adr dX7_crackBy_54 (fun H locs hP hD hS => ?_)
    exact ret_rwv hx hb hr hlk (by simpa [c1, crkd] using hP) hS dX7_crackBy_55
  · skip
    have c1 := b2i_0 c1
    exact ret_rwv hx hb hr hlk (by simpa [c1, crkd] using hP) hS dX7_crackBy_8
set_option maxHeartbeats 4000000 in
set_option maxRecDepth 100000 in
theorem kX7_addPlayer (l : Launch) (g : gG) (a : Nat → Nat) (r : Nat → Int32) (k q : Int32) (hp : bd (r 1) 0 2) : Met l yX7_addPlayer (.code yX7_addPlayer cX7_addPlayer 3 (some .int) :: gw) (rmN 0) (va_Pc [.ref (a 0), .int (k), .int (q)] (rwPre g (yW g a r ++ []))) (rwQi g (yW g a r ++ []) (yW g a (upd (upd (upd r (3 + cl (r 1)) k) (6 + cl (r 1)) q) 1 (r 1 + 1)) ++ []) (r 1)) 0 0 (dm (yW g a r ++ [])) := by
  refine met_start (by decide) (Nat.le_of_ble_eq_true rfl) ?_
  intro pp ee ss mm bl mt cd hC hpre ls hl
  obtain ⟨⟨hx, hb, hml, hown, hts⟩, hr, hlk, hnm⟩ := id hC
  have hl : lv_has ls 3 [(0, .ref (a 0)), (1, .int (k)), (2, .int (q))] := hl
  obtain ⟨hP, hK, hD⟩ := hpre
  have hS : va_S (dm (yW g a r ++ [])) ss.heap ss.heap [] := va_S.rf
  have hD := vD_self hD
  refine lv_aload_n hx hb dX7_addPlayer_0 rfl (lv_at hl 0 rfl) ?_
  refine kget hC.1 hK (kP_app.mp hP).1 0 rfl rfl in_7 0 (by decide) (gw_in m_99 rfl) rfl dX7_addPlayer_1 ?_
  refine lv_if_lt (tgt := 15) hx hb dX7_addPlayer_4 (by decide) (fun c1 => ?_) (fun c1 => ?_)
  · skip
    have c1' := Int32.not_le.mpr c1
    exact absurd hp.1 (by rw [Int32.lt_iff_toInt_lt, Int32.toInt_zero] at c1; omega)
  · skip
    have c1' := Int32.not_lt.mp c1
    refine lv_aload_n hx hb dX7_addPlayer_7 rfl (lv_at hl 0 rfl) ?_
    refine kget hC.1 hK (kP_app.mp hP).1 0 rfl rfl in_7 0 (by decide) (gw_in m_99 rfl) rfl dX7_addPlayer_8 ?_
    refine lv_iconst (v := 3) hx hb dX7_addPlayer_11 rfl ?_
    refine lv_icmp_lt (tgt := 18) hx hb dX7_addPlayer_12 (by decide) (fun c2 => ?_) (fun c2 => ?_)
    · skip
      have c2' := Int32.not_le.mpr c2
      refine lv_aload_n hx hb dX7_addPlayer_18 rfl (lv_at hl 0 rfl) ?_
      refine kget hC.1 hK (kP_app.mp hP).1 0 rfl rfl in_7 3 (by decide) (gw_in m_108 rfl) rfl dX7_addPlayer_19 ?_
      refine lv_aload_n hx hb dX7_addPlayer_22 rfl (lv_at hl 0 rfl) ?_
      refine kget hC.1 hK (kP_app.mp hP).1 0 rfl rfl in_7 0 (by decide) (gw_in m_99 rfl) rfl dX7_addPlayer_23 ?_
      refine lv_iload_n hx hb dX7_addPlayer_26 rfl (lv_at hl 1 rfl) ?_
      refine kast (B' := yW g a (upd r (3 + cl (r 1)) k)) hC.1 hK hP hD hS 1 rfl (in_bd hp) (yA1 (in_bd hp)) yW_adr dX7_addPlayer_27 (fun H locs hP hD hS => ?_)
      refine lv_aload_n hx hb dX7_addPlayer_28 rfl (lv_at hl 0 rfl) ?_
      refine kget hC.1 hK (kP_app.mp hP).1 0 rfl rfl in_7 4 (by decide) (gw_in m_109 rfl) rfl dX7_addPlayer_29 ?_
      refine lv_aload_n hx hb dX7_addPlayer_32 rfl (lv_at hl 0 rfl) ?_
      refine kget hC.1 hK (kP_app.mp hP).1 0 rfl rfl in_7 0 (by decide) (gw_in m_99 rfl) rfl dX7_addPlayer_33 ?_
      refine top_i (x := (upd r (3 + cl (r 1)) k) 1) (y := r 1) (upd_ne (by omega)) ?_
      refine lv_iload_n hx hb dX7_addPlayer_36 rfl (lv_at hl 2 rfl) ?_
      refine kast (B' := yW g a (upd (upd r (3 + cl (r 1)) k) (6 + cl (r 1)) q)) hC.1 hK hP hD hS 2 rfl (in_bd hp) (yA2 (in_bd hp)) yW_adr dX7_addPlayer_37 (fun H locs hP hD hS => ?_)
      refine lv_aload_n hx hb dX7_addPlayer_38 rfl (lv_at hl 0 rfl) ?_
      refine lv_dup hx hb dX7_addPlayer_39 rfl ?_
      refine kget hC.1 hK (kP_app.mp hP).1 0 rfl rfl in_7 0 (by decide) (gw_in m_99 rfl) rfl dX7_addPlayer_40 ?_
      refine top_i (x := (upd (upd r (3 + cl (r 1)) k) (6 + cl (r 1)) q) 1) (y := r 1) ((upd_ne (by omega)).trans (upd_ne (by omega))) ?_
      refine lv_dup_x1 hx hb dX7_addPlayer_43 rfl rfl ?_
      refine lv_iconst (v := 1) hx hb dX7_addPlayer_44 rfl ?_
      refine lv_iadd hx hb dX7_addPlayer_45 ?_
      refine kput (B' := yW g a (upd (upd (upd r (3 + cl (r 1)) k) (6 + cl (r 1)) q) 1 ((r 1) + 1))) hC.1 hK hP hD hS 0 rfl rfl in_7 tyX7 tyX7_ok nmX7 0 (by decide) (gw_in m_99 rfl) rfl (ty := .int) (by decide +kernel) rfl rfl (Nat.le_of_ble_eq_true rfl) (yF1) yW_adr dX7_addPlayer_46 (fun H locs hP hD hS => ?_)
      exact ret_rwi hx hb hr hlk (by rfl) (hP) hS dX7_addPlayer_49
    · skip
      have c2' := Int32.not_lt.mp c2
      exact absurd hp.2 (by rw [Int32.lt_iff_toInt_lt, show (3 : Int32).toInt = 3 from rfl] at c2; omega)
set_option maxHeartbeats 4000000 in
set_option maxRecDepth 100000 in
theorem kX7_addNut (l : Launch) (g : gG) (a : Nat → Nat) (r : Nat → Int32) (q k h w : Int32) (hp : bd (r 2) 0 5) : Met l yX7_addNut (.code yX7_addNut cX7_addNut 5 (some .int) :: gw) (rmN 0) (va_Pc [.ref (a 0), .int (q), .int (k), .int (h), .int (w)] (rwPre g (yW g a r ++ []))) (rwQi g (yW g a r ++ []) (yW g a (upd (upd (upd (upd (upd (upd (upd r (9 + cl (r 2)) q) (15 + cl (r 2)) k) (21 + cl (r 2)) h) (27 + cl (r 2)) w) (33 + cl (r 2)) 0) (39 + cl (r 2)) 1) 2 (r 2 + 1)) ++ []) (r 2)) 0 0 (dm (yW g a r ++ [])) := by
  refine met_start (by decide) (Nat.le_of_ble_eq_true rfl) ?_
  intro pp ee ss mm bl mt cd hC hpre ls hl
  obtain ⟨⟨hx, hb, hml, hown, hts⟩, hr, hlk, hnm⟩ := id hC
  have hl : lv_has ls 5 [(0, .ref (a 0)), (1, .int (q)), (2, .int (k)), (3, .int (h)), (4, .int (w))] := hl
  obtain ⟨hP, hK, hD⟩ := hpre
  have hS : va_S (dm (yW g a r ++ [])) ss.heap ss.heap [] := va_S.rf
  have hD := vD_self hD
  refine lv_aload_n hx hb dX7_addNut_0 rfl (lv_at hl 0 rfl) ?_
  refine kget hC.1 hK (kP_app.mp hP).1 0 rfl rfl in_7 1 (by decide) (gw_in m_102 rfl) rfl dX7_addNut_1 ?_
  refine lv_if_lt (tgt := 16) hx hb dX7_addNut_4 (by decide) (fun c1 => ?_) (fun c1 => ?_)
  · skip
    have c1' := Int32.not_le.mpr c1
    exact absurd hp.1 (by rw [Int32.lt_iff_toInt_lt, Int32.toInt_zero] at c1; omega)
  · skip
    have c1' := Int32.not_lt.mp c1
    refine lv_aload_n hx hb dX7_addNut_7 rfl (lv_at hl 0 rfl) ?_
    refine kget hC.1 hK (kP_app.mp hP).1 0 rfl rfl in_7 1 (by decide) (gw_in m_102 rfl) rfl dX7_addNut_8 ?_
    refine lv_bipush (v := 6) hx hb dX7_addNut_11 rfl ?_
    refine lv_icmp_lt (tgt := 19) hx hb dX7_addNut_13 (by decide) (fun c2 => ?_) (fun c2 => ?_)
    · skip
      have c2' := Int32.not_le.mpr c2
      refine lv_aload_n hx hb dX7_addNut_19 rfl (lv_at hl 0 rfl) ?_
      refine kget hC.1 hK (kP_app.mp hP).1 0 rfl rfl in_7 5 (by decide) (gw_in m_110 rfl) rfl dX7_addNut_20 ?_
      refine lv_aload_n hx hb dX7_addNut_23 rfl (lv_at hl 0 rfl) ?_
      refine kget hC.1 hK (kP_app.mp hP).1 0 rfl rfl in_7 1 (by decide) (gw_in m_102 rfl) rfl dX7_addNut_24 ?_
      refine lv_iload_n hx hb dX7_addNut_27 rfl (lv_at hl 1 rfl) ?_
      refine kast (B' := yW g a (upd r (9 + cl (r 2)) q)) hC.1 hK hP hD hS 3 rfl (in_bd hp) (yA3 (in_bd hp)) yW_adr dX7_addNut_28 (fun H locs hP hD hS => ?_)
      refine lv_aload_n hx hb dX7_addNut_29 rfl (lv_at hl 0 rfl) ?_
      refine kget hC.1 hK (kP_app.mp hP).1 0 rfl rfl in_7 6 (by decide) (gw_in m_112 rfl) rfl dX7_addNut_30 ?_
      refine lv_aload_n hx hb dX7_addNut_33 rfl (lv_at hl 0 rfl) ?_
      refine kget hC.1 hK (kP_app.mp hP).1 0 rfl rfl in_7 1 (by decide) (gw_in m_102 rfl) rfl dX7_addNut_34 ?_
      refine top_i (x := (upd r (9 + cl (r 2)) q) 2) (y := r 2) (upd_ne (by omega)) ?_
      refine lv_iload_n hx hb dX7_addNut_37 rfl (lv_at hl 2 rfl) ?_
      refine kast (B' := yW g a (upd (upd r (9 + cl (r 2)) q) (15 + cl (r 2)) k)) hC.1 hK hP hD hS 4 rfl (in_bd hp) (yA4 (in_bd hp)) yW_adr dX7_addNut_38 (fun H locs hP hD hS => ?_)
      refine lv_aload_n hx hb dX7_addNut_39 rfl (lv_at hl 0 rfl) ?_
      refine kget hC.1 hK (kP_app.mp hP).1 0 rfl rfl in_7 7 (by decide) (gw_in m_113 rfl) rfl dX7_addNut_40 ?_
      refine lv_aload_n hx hb dX7_addNut_43 rfl (lv_at hl 0 rfl) ?_
      refine kget hC.1 hK (kP_app.mp hP).1 0 rfl rfl in_7 1 (by decide) (gw_in m_102 rfl) rfl dX7_addNut_44 ?_
      refine top_i (x := (upd (upd r (9 + cl (r 2)) q) (15 + cl (r 2)) k) 2) (y := r 2) ((upd_ne (by omega)).trans (upd_ne (by omega))) ?_
      refine lv_iload_n hx hb dX7_addNut_47 rfl (lv_at hl 3 rfl) ?_
      refine kast (B' := yW g a (upd (upd (upd r (9 + cl (r 2)) q) (15 + cl (r 2)) k) (21 + cl (r 2)) h)) hC.1 hK hP hD hS 5 rfl (in_bd hp) (yA5 (in_bd hp)) yW_adr dX7_addNut_48 (fun H locs hP hD hS => ?_)
      refine lv_aload_n hx hb dX7_addNut_49 rfl (lv_at hl 0 rfl) ?_
      refine kget hC.1 hK (kP_app.mp hP).1 0 rfl rfl in_7 8 (by decide) (gw_in m_114 rfl) rfl dX7_addNut_50 ?_
      refine lv_aload_n hx hb dX7_addNut_53 rfl (lv_at hl 0 rfl) ?_
      refine kget hC.1 hK (kP_app.mp hP).1 0 rfl rfl in_7 1 (by decide) (gw_in m_102 rfl) rfl dX7_addNut_54 ?_
      refine top_i (x := (upd (upd (upd r (9 + cl (r 2)) q) (15 + cl (r 2)) k) (21 + cl (r 2)) h) 2) (y := r 2) ((upd_ne (by omega)).trans ((upd_ne (by omega)).trans (upd_ne (by omega)))) ?_
      refine lv_iload hx hb dX7_addNut_57 (lv_at hl 4 rfl) ?_
      refine kast (B' := yW g a (upd (upd (upd (upd r (9 + cl (r 2)) q) (15 + cl (r 2)) k) (21 + cl (r 2)) h) (27 + cl (r 2)) w)) hC.1 hK hP hD hS 6 rfl (in_bd hp) (yA6 (in_bd hp)) yW_adr dX7_addNut_59 (fun H locs hP hD hS => ?_)
      refine lv_aload_n hx hb dX7_addNut_60 rfl (lv_at hl 0 rfl) ?_
      refine kget hC.1 hK (kP_app.mp hP).1 0 rfl rfl in_7 9 (by decide) (gw_in m_115 rfl) rfl dX7_addNut_61 ?_
      refine lv_aload_n hx hb dX7_addNut_64 rfl (lv_at hl 0 rfl) ?_
      refine kget hC.1 hK (kP_app.mp hP).1 0 rfl rfl in_7 1 (by decide) (gw_in m_102 rfl) rfl dX7_addNut_65 ?_
      refine top_i (x := (upd (upd (upd (upd r (9 + cl (r 2)) q) (15 + cl (r 2)) k) (21 + cl (r 2)) h) (27 + cl (r 2)) w) 2) (y := r 2) ((upd_ne (by omega)).trans ((upd_ne (by omega)).trans ((upd_ne (by omega)).trans (upd_ne (by omega))))) ?_
      refine lv_iconst (v := 0) hx hb dX7_addNut_68 rfl ?_
      refine kast (B' := yW g a (upd (upd (upd (upd (upd r (9 + cl (r 2)) q) (15 + cl (r 2)) k) (21 + cl (r 2)) h) (27 + cl (r 2)) w) (33 + cl (r 2)) 0)) hC.1 hK hP hD hS 7 rfl (in_bd hp) (yA7 (in_bd hp)) yW_adr dX7_addNut_69 (fun H locs hP hD hS => ?_)
      refine lv_aload_n hx hb dX7_addNut_70 rfl (lv_at hl 0 rfl) ?_
      refine kget hC.1 hK (kP_app.mp hP).1 0 rfl rfl in_7 10 (by decide) (gw_in m_117 rfl) rfl dX7_addNut_71 ?_
      refine lv_aload_n hx hb dX7_addNut_74 rfl (lv_at hl 0 rfl) ?_
      refine kget hC.1 hK (kP_app.mp hP).1 0 rfl rfl in_7 1 (by decide) (gw_in m_102 rfl) rfl dX7_addNut_75 ?_
      refine top_i (x := (upd (upd (upd (upd (upd r (9 + cl (r 2)) q) (15 + cl (r 2)) k) (21 + cl (r 2)) h) (27 + cl (r 2)) w) (33 + cl (r 2)) 0) 2) (y := r 2) ((upd_ne (by omega)).trans ((upd_ne (by omega)).trans ((upd_ne (by omega)).trans ((upd_ne (by omega)).trans (upd_ne (by omega)))))) ?_
      refine lv_iconst (v := 1) hx hb dX7_addNut_78 rfl ?_
      refine kast (B' := yW g a (upd (upd (upd (upd (upd (upd r (9 + cl (r 2)) q) (15 + cl (r 2)) k) (21 + cl (r 2)) h) (27 + cl (r 2)) w) (33 + cl (r 2)) 0) (39 + cl (r 2)) 1)) hC.1 hK hP hD hS 8 rfl (in_bd hp) (yA8 (in_bd hp)) yW_adr dX7_addNut_79 (fun H locs hP hD hS => ?_)
      refine lv_aload_n hx hb dX7_addNut_80 rfl (lv_at hl 0 rfl) ?_
      refine lv_dup hx hb dX7_addNut_81 rfl ?_
      refine kget hC.1 hK (kP_app.mp hP).1 0 rfl rfl in_7 1 (by decide) (gw_in m_102 rfl) rfl dX7_addNut_82 ?_
      refine top_i (x := (upd (upd (upd (upd (upd (upd r (9 + cl (r 2)) q) (15 + cl (r 2)) k) (21 + cl (r 2)) h) (27 + cl (r 2)) w) (33 + cl (r 2)) 0) (39 + cl (r 2)) 1) 2) (y := r 2) ((upd_ne (by omega)).trans ((upd_ne (by omega)).trans ((upd_ne (by omega)).trans ((upd_ne (by omega)).trans ((upd_ne (by omega)).trans (upd_ne (by omega))))))) ?_
      refine lv_dup_x1 hx hb dX7_addNut_85 rfl rfl ?_
      refine lv_iconst (v := 1) hx hb dX7_addNut_86 rfl ?_
      refine lv_iadd hx hb dX7_addNut_87 ?_
      refine kput (B' := yW g a (upd (upd (upd (upd (upd (upd (upd r (9 + cl (r 2)) q) (15 + cl (r 2)) k) (21 + cl (r 2)) h) (27 + cl (r 2)) w) (33 + cl (r 2)) 0) (39 + cl (r 2)) 1) 2 ((r 2) + 1))) hC.1 hK hP hD hS 0 rfl rfl in_7 tyX7 tyX7_ok nmX7 1 (by decide) (gw_in m_102 rfl) rfl (ty := .int) (by decide +kernel) rfl rfl (Nat.le_of_ble_eq_true rfl) (yF2) yW_adr dX7_addNut_88 (fun H locs hP hD hS => ?_)
      exact ret_rwi hx hb hr hlk (by rfl) (hP) hS dX7_addNut_91
    · skip
      have c2' := Int32.not_lt.mp c2
      exact absurd hp.2 (by rw [Int32.lt_iff_toInt_lt, show (6 : Int32).toInt = 6 from rfl] at c2; omega)
set_option maxHeartbeats 4000000 in
set_option maxRecDepth 100000 in
theorem kX7_makeHard (l : Launch) (g : gG) (a : Nat → Nat) (r : Nat → Int32) (i h : Int32) (h2 : (r 2).toInt ≤ 6) : Met l yX7_makeHard (.code yX7_makeHard cX7_makeHard 3 none :: gw) (rmN 1) (va_Pc [.ref (a 0), .int (i), .int (h)] (rwPre g (yW g a r ++ []))) (rwQv g (yW g a r ++ []) (yW g a (if yNut r i = true then upd r (21 + cl i) h else r) ++ [])) 0 0 (dm (yW g a r ++ [])) := by
  refine met_start (by decide) (Nat.le_of_ble_eq_true rfl) ?_
  intro pp ee ss mm bl mt cd hC hpre ls hl
  obtain ⟨⟨hx, hb, hml, hown, hts⟩, hr, hlk, hnm⟩ := id hC
  have hl : lv_has ls 3 [(0, .ref (a 0)), (1, .int (i)), (2, .int (h))] := hl
  obtain ⟨hP, hK, hD⟩ := hpre
  have hS : va_S (dm (yW g a r ++ [])) ss.heap ss.heap [] := va_S.rf
  have hD := vD_self hD
  refine lv_aload_n hx hb dX7_makeHard_0 rfl (lv_at hl 0 rfl) ?_
  refine lv_iload_n hx hb dX7_makeHard_1 rfl (lv_at hl 1 rfl) ?_
  refine ro_i (run_V (As := [.int (i)]) (rest := []) hC.1 ckX7_isNut (kX7_isNut l g a r i) (gw_in m_502 rfl) (fb_ro _ _ _) (va_recv hK.1 (kP_app.mp hP).1 (q0 := 0) rfl rfl) (fun U hU hW => ⟨by rw [hU]; exact (kP_app.mp hP).1, kK_warm hW hK⟩) ⟨rfl, rfl, Nat.le_of_ble_eq_true rfl, Nat.le_of_ble_eq_true rfl⟩ rfl hl.1 rfl (Nat.le_of_ble_eq_true rfl) dX7_makeHard_2 ⟨Nat.le_of_ble_eq_true rfl, Nat.le_of_ble_eq_true rfl⟩) ?_
  refine lv_if_eq (tgt := 15) hx hb dX7_makeHard_5 (by decide) (fun c1 => ?_) (fun c1 => ?_)
  · skip
    have c1 := b2i_0 c1
    exact ret_rwv hx hb hr hlk (by simpa [c1] using hP) hS dX7_makeHard_15
  · skip
    have c1 := b2i_1 c1
    refine lv_aload_n hx hb dX7_makeHard_8 rfl (lv_at hl 0 rfl) ?_
    refine kget hC.1 hK (kP_app.mp hP).1 0 rfl rfl in_7 7 (by decide) (gw_in m_113 rfl) rfl dX7_makeHard_9 ?_
    refine lv_iload_n hx hb dX7_makeHard_12 rfl (lv_at hl 1 rfl) ?_
    refine lv_iload_n hx hb dX7_makeHard_13 rfl (lv_at hl 2 rfl) ?_
    refine kast (B' := yW g a (upd r (21 + cl i) h)) hC.1 hK hP hD hS 5 rfl (yNut_in c1 h2) (yA5 (yNut_in c1 h2)) yW_adr dX7_makeHard_14 (fun H locs hP hD hS => ?_)
    exact ret_rwv hx hb hr hlk (by simpa [c1] using hP) hS dX7_makeHard_15
