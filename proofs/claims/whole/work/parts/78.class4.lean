theorem ckX8_seen : ckV yX8_seen cX8_seen 6 (some .int) 5 := ⟨(gw_in m_738 rfl), (gw_in m_62 rfl), ⟨(gw_in m_736 rfl), (gw_in m_737 rfl)⟩, by decide +kernel, by decide +kernel, by decide +kernel⟩
theorem ckX8_note : ckV yX8_note cX8_note 7 (some .int) 6 := ⟨(gw_in m_799 rfl), (gw_in m_62 rfl), ⟨(gw_in m_797 rfl), (gw_in m_798 rfl)⟩, by decide +kernel, by decide +kernel, by decide +kernel⟩
theorem ckX8_mark : ckV yX8_mark cX8_mark 6 (some .int) 5 := ⟨(gw_in m_803 rfl), (gw_in m_62 rfl), ⟨(gw_in m_801 rfl), (gw_in m_802 rfl)⟩, by decide +kernel, by decide +kernel, by decide +kernel⟩
theorem ckX8_forget : ckV yX8_forget cX8_forget 4 (some .int) 1 := ⟨(gw_in m_807 rfl), (gw_in m_62 rfl), ⟨(gw_in m_805 rfl), (gw_in m_806 rfl)⟩, by decide +kernel, by decide +kernel, by decide +kernel⟩
theorem ckX8_hards : ckV yX8_hards cX8_hards 2 (some .int) 1 := ⟨(gw_in m_753 rfl), (gw_in m_62 rfl), ⟨(gw_in m_751 rfl), (gw_in m_752 rfl)⟩, by decide +kernel, by decide +kernel, by decide +kernel⟩
theorem ckX8_is : ckV yX8_is cX8_is 2 (some .int) 1 := ⟨(gw_in m_812 rfl), (gw_in m_62 rfl), ⟨(gw_in m_810 rfl), (gw_in m_811 rfl)⟩, by decide +kernel, by decide +kernel, by decide +kernel⟩
theorem ckX8_kinds : ckV yX8_kinds cX8_kinds 2 (some .int) 1 := ⟨(gw_in m_820 rfl), (gw_in m_62 rfl), ⟨(gw_in m_818 rfl), (gw_in m_819 rfl)⟩, by decide +kernel, by decide +kernel, by decide +kernel⟩
theorem ckX8_tell : ckV yX8_tell cX8_tell 2 (some .int) 1 := ⟨(gw_in m_779 rfl), (gw_in m_62 rfl), ⟨(gw_in m_777 rfl), (gw_in m_778 rfl)⟩, by decide +kernel, by decide +kernel, by decide +kernel⟩
theorem ckX8_look : ckV yX8_look cX8_look 2 (some .int) 1 := ⟨(gw_in m_816 rfl), (gw_in m_62 rfl), ⟨(gw_in m_814 rfl), (gw_in m_815 rfl)⟩, by decide +kernel, by decide +kernel, by decide +kernel⟩
theorem ckX8_ask : ckV yX8_ask cX8_ask 2 (some .int) 1 := ⟨(gw_in m_824 rfl), (gw_in m_62 rfl), ⟨(gw_in m_822 rfl), (gw_in m_823 rfl)⟩, by decide +kernel, by decide +kernel, by decide +kernel⟩
theorem w_012 {w : Int32} (h : wth w 0 2 = true) : w = 0 ∨ w = 1 ∨ w = 2 := by
  rw [wth_ti, show (0 : Int32).toInt = 0 from rfl, show (2 : Int32).toInt = 2 from rfl] at h
  obtain ⟨k, h1, h2, h3⟩ := nI_ofT h.1
  have hk : k < 3 := by omega
  subst h2
  match k, hk with
  | 0, _ => exact Or.inl rfl
  | 1, _ => exact Or.inr (Or.inl rfl)
  | 2, _ => exact Or.inr (Or.inr rfl)
set_option maxHeartbeats 4000000 in
set_option maxRecDepth 100000 in
theorem kX8_seen (l : Launch) (g : gG) (x : Nat → Nat) (im te tr gu : Nat) (ab be : Int64) (tb tn tf : Int32) (a ay b1 : Nat → Nat) (ps s2 s3 : Nat) (r : Nat → Int32) (N1 : Nat) (f1 : Nat → Int32) (i t c f v : Int32) (hw : Wf r) (hNl : N1 ≤ 5) : Met l yX8_seen (.code yX8_seen cX8_seen 6 (some .int) :: gw) (rmN 2) (va_Pc [.ref (x 0), .int (i), .int (t), .int (c), .int (f), .int (v)] (rwPre g (cO g x (a 0) im te tr gu ab be tb tn tf ++ (gW g a (ay 0) ps (b1 0) s2 s3 ++ (yW g ay r ++ (rW g b1 N1 5 f1 ++ [])))))) (rwQi g (cO g x (a 0) im te tr gu ab be tb tn tf ++ (gW g a (ay 0) ps (b1 0) s2 s3 ++ (yW g ay r ++ (rW g b1 N1 5 f1 ++ [])))) (cO g x (a 0) im te tr gu ab be (if (yNut r i && (wth t 0 99 && wth c 0 9 && wth f 0 44 && wth v 0 60)) = true then tb else tb + 1) tn (if (yNut r i && (wth t 0 99 && wth c 0 9 && wth f 0 44 && wth v 0 60)) = true then (if N1 = 5 then tf + 1 else tf) else tf) ++ (gW g a (ay 0) ps (b1 0) s2 s3 ++ (yW g ay r ++ (rW g b1 (if (yNut r i && (wth t 0 99 && wth c 0 9 && wth f 0 44 && wth v 0 60)) = true then (if N1 = 5 then N1 else N1 + 1) else N1) 5 (if (yNut r i && (wth t 0 99 && wth c 0 9 && wth f 0 44 && wth v 0 60)) = true then (if N1 = 5 then f1 else add6 f1 N1 i t c f v 0) else f1) ++ [])))) (if (yNut r i && (wth t 0 99 && wth c 0 9 && wth f 0 44 && wth v 0 60)) = true then (if N1 = 5 then -4 else nI (N1 + 1)) else -2)) 0 0 (dm (cO g x (a 0) im te tr gu ab be tb tn tf ++ (gW g a (ay 0) ps (b1 0) s2 s3 ++ (yW g ay r ++ (rW g b1 N1 5 f1 ++ []))))) := by
  refine met_start (by decide) (Nat.le_of_ble_eq_true rfl) ?_
  intro pp ee ss mm bl mt cd hC hpre ls hl
  obtain ⟨⟨hx, hb, hml, hown, hts⟩, hr, hlk, hnm⟩ := id hC
  have hl : lv_has ls 6 [(0, .ref (x 0)), (1, .int (i)), (2, .int (t)), (3, .int (c)), (4, .int (f)), (5, .int (v))] := hl
  obtain ⟨hP, hK, hD⟩ := hpre
  have hS : va_S (dm (cO g x (a 0) im te tr gu ab be tb tn tf ++ (gW g a (ay 0) ps (b1 0) s2 s3 ++ (yW g ay r ++ (rW g b1 N1 5 f1 ++ []))))) ss.heap ss.heap [] := va_S.rf
  have hD := vD_self hD
  refine lv_aload_n hx hb dX8_seen_0 rfl (lv_at hl 0 rfl) ?_
  refine kget hC.1 hK (kP_app.mp hP).1 0 rfl rfl in_8 0 (by decide) (gw_in m_282 rfl) rfl dX8_seen_1 ?_
  refine kget hC.1 hK (kP_app.mp (kP_app.mp hP).2).1 0 rfl rfl in_1 0 (by decide) (gw_in m_180 rfl) rfl dX8_seen_4 ?_
  refine lv_iload_n hx hb dX8_seen_7 rfl (lv_at hl 1 rfl) ?_
  refine ro_i (run_V (As := [.int (i)]) (rest := []) hC.1 ckX7_isNut (kX7_isNut l g ay r i) (gw_in m_573 rfl) (fb_ro _ _ _) (va_recv hK.1 (kP_app.mp (kP_app.mp (kP_app.mp hP).2).2).1 (q0 := 0) rfl rfl) (fun U hU hW => ⟨by rw [hU]; exact (kP_app.mp (kP_app.mp (kP_app.mp hP).2).2).1, kK_warm hW hK⟩) ⟨rfl, rfl, Nat.le_of_ble_eq_true rfl, Nat.le_of_ble_eq_true rfl⟩ rfl hl.1 rfl (Nat.le_of_ble_eq_true rfl) dX8_seen_8 ⟨Nat.le_of_ble_eq_true rfl, Nat.le_of_ble_eq_true rfl⟩) ?_
  refine lv_if_eq (tgt := 26) hx hb dX8_seen_11 (by decide) (fun c1 => ?_) (fun c1 => ?_)
  · skip
    have c1 := b2i_0 c1
    refine lv_aload_n hx hb dX8_seen_26 rfl (lv_at hl 0 rfl) ?_
    refine rw_i (run_V (As := []) (rest := []) hC.1 ckX8_bad (kX8_bad l g x (a 0) im te tr gu ab be tb tn tf) (gw_in m_320 rfl) (fb_rw _ _ _) (va_recv hK.1 (kP_app.mp hP).1 (q0 := 0) rfl rfl) (fun U hU hW => ⟨by rw [hU]; exact (kP_app.mpr ⟨(kP_app.mp hP).1, kP_nil⟩), kK_warm hW hK, vD_sub (sbA _ (sb0 _)) hD⟩) ⟨rfl, rfl, Nat.le_of_ble_eq_true rfl, Nat.le_of_ble_eq_true rfl⟩ rfl hl.1 rfl (Nat.le_of_ble_eq_true rfl) dX8_seen_27 ⟨Nat.le_of_ble_eq_true rfl, Nat.le_of_ble_eq_true rfl⟩) (adr_app cO_adr rfl) (asc1 _ _) (ww' := cO g x (a 0) im te tr gu ab be (tb + 1) tn tf ++ (gW g a (ay 0) ps (b1 0) s2 s3 ++ (yW g ay r ++ (rW g b1 N1 5 f1 ++ [])))) (asc1 _ _) hP hD hS (fun H locs hP hD hS => ?_)
    exact ret_rwi hx hb hr hlk (by simp only [c1, if_true, if_false, eq_self, Bool.false_eq_true, Bool.and_true, Bool.true_and, Bool.and_false, Bool.false_and]) (kP_eq (by simp only [c1, if_true, if_false, eq_self, Bool.false_eq_true, Bool.and_true, Bool.true_and, Bool.and_false, Bool.false_and]) hP) hS dX8_seen_30
  · skip
    have c1 := b2i_1 c1
    refine lv_iload_n hx hb dX8_seen_14 rfl (lv_at hl 2 rfl) ?_
    refine lv_iload_n hx hb dX8_seen_15 rfl (lv_at hl 3 rfl) ?_
    refine lv_iload hx hb dX8_seen_16 (lv_at hl 4 rfl) ?_
    refine lv_iload hx hb dX8_seen_18 (lv_at hl 5 rfl) ?_
    refine ro_i (run_S (As := [.int (t), .int (c), .int (f), .int (v)]) (rest := []) hC.1 ckX8_isSight (kX8_isSight l t c f v) (gw_in m_739 rfl) (fb_nil _) (fun _ _ _ => trivial) ⟨rfl, rfl, Nat.le_of_ble_eq_true rfl, Nat.le_of_ble_eq_true rfl⟩ rfl hl.1 rfl (Nat.le_of_ble_eq_true rfl) dX8_seen_20 ⟨Nat.le_of_ble_eq_true rfl, Nat.le_of_ble_eq_true rfl⟩) ?_
    refine lv_if_ne (tgt := 31) hx hb dX8_seen_23 (by decide) (fun c2 => ?_) (fun c2 => ?_)
    · skip
      have c2 := b2i_1 c2
      refine lv_aload_n hx hb dX8_seen_31 rfl (lv_at hl 0 rfl) ?_
      refine kget hC.1 hK (kP_app.mp hP).1 0 rfl rfl in_8 0 (by decide) (gw_in m_282 rfl) rfl dX8_seen_32 ?_
      refine kget hC.1 hK (kP_app.mp (kP_app.mp hP).2).1 0 rfl rfl in_1 2 (by decide) (gw_in m_185 rfl) rfl dX8_seen_35 ?_
      refine ro_i (run_V (As := []) (rest := []) hC.1 ckX4_isFull (kX4_isFull l g b1 N1 5 f1) (gw_in m_742 rfl) (fb_ro _ _ _) (va_recv hK.1 (kP_app.mp (kP_app.mp (kP_app.mp (kP_app.mp hP).2).2).2).1 (q0 := 0) rfl rfl) (fun U hU hW => ⟨by rw [hU]; exact (kP_app.mp (kP_app.mp (kP_app.mp (kP_app.mp hP).2).2).2).1, kK_warm hW hK⟩) ⟨rfl, rfl, Nat.le_of_ble_eq_true rfl, Nat.le_of_ble_eq_true rfl⟩ rfl hl.1 rfl (Nat.le_of_ble_eq_true rfl) dX8_seen_38 ⟨Nat.le_of_ble_eq_true rfl, Nat.le_of_ble_eq_true rfl⟩) ?_
      refine lv_if_eq (tgt := 49) hx hb dX8_seen_41 (by decide) (fun c3 => ?_) (fun c3 => ?_)
      · skip
        have c3 := b2i_0 c3
        have hful : ¬ N1 = 5 := by have h9 := c3; rw [show (5 : Int32) = nI 5 from rfl, decide_eq_false_iff_not, nI_leI (by omega) (by omega)] at h9; omega
        refine lv_aload_n hx hb dX8_seen_49 rfl (lv_at hl 0 rfl) ?_
        refine kget hC.1 hK (kP_app.mp hP).1 0 rfl rfl in_8 0 (by decide) (gw_in m_282 rfl) rfl dX8_seen_50 ?_
        refine kget hC.1 hK (kP_app.mp (kP_app.mp hP).2).1 0 rfl rfl in_1 2 (by decide) (gw_in m_185 rfl) rfl dX8_seen_53 ?_
        refine lv_iload_n hx hb dX8_seen_56 rfl (lv_at hl 1 rfl) ?_
        refine lv_iload_n hx hb dX8_seen_57 rfl (lv_at hl 2 rfl) ?_
        refine lv_iload_n hx hb dX8_seen_58 rfl (lv_at hl 3 rfl) ?_
        refine lv_iload hx hb dX8_seen_59 (lv_at hl 4 rfl) ?_
        refine lv_iload hx hb dX8_seen_61 (lv_at hl 5 rfl) ?_
        refine lv_iconst (v := 0) hx hb dX8_seen_63 rfl ?_
        have hP : kP g (rW g b1 N1 5 f1 ++ (cO g x (a 0) im te tr gu ab be tb tn tf ++ (gW g a (ay 0) ps (b1 0) s2 s3 ++ (yW g ay r ++ [])))) _ := kP_perm (((pmA _ (pmA _ (pm_swap _ _ _))).trans (pmA _ (pm_swap _ _ _))).trans (pm_swap _ _ _)) hP
        have hD : va_D _ (rW g b1 N1 5 f1 ++ (cO g x (a 0) im te tr gu ab be tb tn tf ++ (gW g a (ay 0) ps (b1 0) s2 s3 ++ (yW g ay r ++ [])))) := vD_perm (((pmA _ (pmA _ (pm_swap _ _ _))).trans (pmA _ (pm_swap _ _ _))).trans (pm_swap _ _ _)) hD
        refine rw_i (run_V (As := [.int (i), .int (t), .int (c), .int (f), .int (v), .int (0)]) (rest := []) hC.1 ckX4_add (kX4_add l g b1 N1 5 f1 i t c f v 0 (by omega)) (gw_in m_746 rfl) (fb_rw _ _ _) (va_recv hK.1 (kP_app.mp hP).1 (q0 := 0) rfl rfl) (fun U hU hW => ⟨by rw [hU]; exact (kP_app.mpr ⟨(kP_app.mp hP).1, kP_nil⟩), kK_warm hW hK, vD_sub (sbA _ (sb0 _)) hD⟩) ⟨rfl, rfl, Nat.le_of_ble_eq_true rfl, Nat.le_of_ble_eq_true rfl⟩ rfl hl.1 rfl (Nat.le_of_ble_eq_true rfl) dX8_seen_64 ⟨Nat.le_of_ble_eq_true rfl, Nat.le_of_ble_eq_true rfl⟩) (adr_app rW_adr rfl) (asc1 _ _) (ww' := rW g b1 (N1 + 1) 5 (add6 f1 N1 i t c f v 0) ++ (cO g x (a 0) im te tr gu ab be tb tn tf ++ (gW g a (ay 0) ps (b1 0) s2 s3 ++ (yW g ay r ++ [])))) (asc1 _ _) hP hD hS (fun H locs hP hD hS => ?_)
        have hP : kP g (cO g x (a 0) im te tr gu ab be tb tn tf ++ (gW g a (ay 0) ps (b1 0) s2 s3 ++ (yW g ay r ++ (rW g b1 (N1 + 1) 5 (add6 f1 N1 i t c f v 0) ++ [])))) _ := kP_perm (((pm_swap _ _ _).trans (pmA _ (pm_swap _ _ _))).trans (pmA _ (pmA _ (pm_swap _ _ _)))) hP
        have hD : va_D _ (cO g x (a 0) im te tr gu ab be tb tn tf ++ (gW g a (ay 0) ps (b1 0) s2 s3 ++ (yW g ay r ++ (rW g b1 (N1 + 1) 5 (add6 f1 N1 i t c f v 0) ++ [])))) := vD_perm (((pm_swap _ _ _).trans (pmA _ (pm_swap _ _ _))).trans (pmA _ (pmA _ (pm_swap _ _ _)))) hD
        exact ret_rwi hx hb hr hlk (by rw [if_pos (show (yNut r i && (wth t 0 99 && wth c 0 9 && wth f 0 44 && wth v 0 60)) = true from (by simp only [c1, c2]; rfl)), if_neg hful]) (kP_eq (by have h9 : (yNut r i && (wth t 0 99 && wth c 0 9 && wth f 0 44 && wth v 0 60)) = true := (by simp only [c1, c2]; rfl); simp only [if_pos h9, hful, if_true, if_false]) hP) hS dX8_seen_67
      · skip
        have c3 := b2i_1 c3
        have hful : N1 = 5 := by have h9 := c3; rw [show (5 : Int32) = nI 5 from rfl, decide_eq_true_eq, nI_leI (by omega) (by omega)] at h9; omega
        refine lv_aload_n hx hb dX8_seen_44 rfl (lv_at hl 0 rfl) ?_
        refine rw_i (run_V (As := []) (rest := []) hC.1 ckX8_full (kX8_full l g x (a 0) im te tr gu ab be tb tn tf) (gw_in m_343 rfl) (fb_rw _ _ _) (va_recv hK.1 (kP_app.mp hP).1 (q0 := 0) rfl rfl) (fun U hU hW => ⟨by rw [hU]; exact (kP_app.mpr ⟨(kP_app.mp hP).1, kP_nil⟩), kK_warm hW hK, vD_sub (sbA _ (sb0 _)) hD⟩) ⟨rfl, rfl, Nat.le_of_ble_eq_true rfl, Nat.le_of_ble_eq_true rfl⟩ rfl hl.1 rfl (Nat.le_of_ble_eq_true rfl) dX8_seen_45 ⟨Nat.le_of_ble_eq_true rfl, Nat.le_of_ble_eq_true rfl⟩) (adr_app cO_adr rfl) (asc1 _ _) (ww' := cO g x (a 0) im te tr gu ab be tb tn (tf + 1) ++ (gW g a (ay 0) ps (b1 0) s2 s3 ++ (yW g ay r ++ (rW g b1 N1 5 f1 ++ [])))) (asc1 _ _) hP hD hS (fun H locs hP hD hS => ?_)
        exact ret_rwi hx hb hr hlk (by rw [if_pos (show (yNut r i && (wth t 0 99 && wth c 0 9 && wth f 0 44 && wth v 0 60)) = true from (by simp only [c1, c2]; rfl)), if_pos hful]) (kP_eq (by have h9 : (yNut r i && (wth t 0 99 && wth c 0 9 && wth f 0 44 && wth v 0 60)) = true := (by simp only [c1, c2]; rfl); simp only [if_pos h9, hful, if_true, if_false]) hP) hS dX8_seen_48
    · skip
      have c2 := b2i_0 c2
      refine lv_aload_n hx hb dX8_seen_26 rfl (lv_at hl 0 rfl) ?_
      refine rw_i (run_V (As := []) (rest := []) hC.1 ckX8_bad (kX8_bad l g x (a 0) im te tr gu ab be tb tn tf) (gw_in m_320 rfl) (fb_rw _ _ _) (va_recv hK.1 (kP_app.mp hP).1 (q0 := 0) rfl rfl) (fun U hU hW => ⟨by rw [hU]; exact (kP_app.mpr ⟨(kP_app.mp hP).1, kP_nil⟩), kK_warm hW hK, vD_sub (sbA _ (sb0 _)) hD⟩) ⟨rfl, rfl, Nat.le_of_ble_eq_true rfl, Nat.le_of_ble_eq_true rfl⟩ rfl hl.1 rfl (Nat.le_of_ble_eq_true rfl) dX8_seen_27 ⟨Nat.le_of_ble_eq_true rfl, Nat.le_of_ble_eq_true rfl⟩) (adr_app cO_adr rfl) (asc1 _ _) (ww' := cO g x (a 0) im te tr gu ab be (tb + 1) tn tf ++ (gW g a (ay 0) ps (b1 0) s2 s3 ++ (yW g ay r ++ (rW g b1 N1 5 f1 ++ [])))) (asc1 _ _) hP hD hS (fun H locs hP hD hS => ?_)
      exact ret_rwi hx hb hr hlk (by simp only [c1, c2, if_true, if_false, eq_self, Bool.false_eq_true, Bool.and_true, Bool.true_and, Bool.and_false, Bool.false_and]) (kP_eq (by simp only [c1, c2, if_true, if_false, eq_self, Bool.false_eq_true, Bool.and_true, Bool.true_and, Bool.and_false, Bool.false_and]) hP) hS dX8_seen_30
set_option maxHeartbeats 4000000 in
set_option maxRecDepth 100000 in
theorem kX8_note (l : Launch) (g : gG) (x : Nat → Nat) (im te tr gu : Nat) (ab be : Int64) (tb tn tf : Int32) (a ay b2 : Nat → Nat) (ps s1 s3 : Nat) (r : Nat → Int32) (N1 : Nat) (f1 : Nat → Int32) (i h t c f v : Int32) (hw : Wf r) (hNl : N1 ≤ 6) : Met l yX8_note (.code yX8_note cX8_note 7 (some .int) :: gw) (rmN 2) (va_Pc [.ref (x 0), .int (i), .int (h), .int (t), .int (c), .int (f), .int (v)] (rwPre g (cO g x (a 0) im te tr gu ab be tb tn tf ++ (gW g a (ay 0) ps s1 (b2 0) s3 ++ (yW g ay r ++ (rW g b2 N1 6 f1 ++ [])))))) (rwQi g (cO g x (a 0) im te tr gu ab be tb tn tf ++ (gW g a (ay 0) ps s1 (b2 0) s3 ++ (yW g ay r ++ (rW g b2 N1 6 f1 ++ [])))) (cO g x (a 0) im te tr gu ab be (if (yNut r i && wth h 0 9 && (wth t 0 99 && wth c 0 9 && wth f 0 44 && wth v 0 60)) = true then tb else tb + 1) tn (if (yNut r i && wth h 0 9 && (wth t 0 99 && wth c 0 9 && wth f 0 44 && wth v 0 60)) = true then (if N1 = 6 then tf + 1 else tf) else tf) ++ (gW g a (ay 0) ps s1 (b2 0) s3 ++ (yW g ay r ++ (rW g b2 (if (yNut r i && wth h 0 9 && (wth t 0 99 && wth c 0 9 && wth f 0 44 && wth v 0 60)) = true then (if N1 = 6 then N1 else N1 + 1) else N1) 6 (if (yNut r i && wth h 0 9 && (wth t 0 99 && wth c 0 9 && wth f 0 44 && wth v 0 60)) = true then (if N1 = 6 then f1 else add6 f1 N1 i h t c f v) else f1) ++ [])))) (if (yNut r i && wth h 0 9 && (wth t 0 99 && wth c 0 9 && wth f 0 44 && wth v 0 60)) = true then (if N1 = 6 then -4 else nI (N1 + 1)) else -2)) 0 0 (dm (cO g x (a 0) im te tr gu ab be tb tn tf ++ (gW g a (ay 0) ps s1 (b2 0) s3 ++ (yW g ay r ++ (rW g b2 N1 6 f1 ++ []))))) := by
  refine met_start (by decide) (Nat.le_of_ble_eq_true rfl) ?_
  intro pp ee ss mm bl mt cd hC hpre ls hl
  obtain ⟨⟨hx, hb, hml, hown, hts⟩, hr, hlk, hnm⟩ := id hC
  have hl : lv_has ls 7 [(0, .ref (x 0)), (1, .int (i)), (2, .int (h)), (3, .int (t)), (4, .int (c)), (5, .int (f)), (6, .int (v))] := hl
  obtain ⟨hP, hK, hD⟩ := hpre
  have hS : va_S (dm (cO g x (a 0) im te tr gu ab be tb tn tf ++ (gW g a (ay 0) ps s1 (b2 0) s3 ++ (yW g ay r ++ (rW g b2 N1 6 f1 ++ []))))) ss.heap ss.heap [] := va_S.rf
  have hD := vD_self hD
  refine lv_aload_n hx hb dX8_note_0 rfl (lv_at hl 0 rfl) ?_
  refine kget hC.1 hK (kP_app.mp hP).1 0 rfl rfl in_8 0 (by decide) (gw_in m_282 rfl) rfl dX8_note_1 ?_
  refine kget hC.1 hK (kP_app.mp (kP_app.mp hP).2).1 0 rfl rfl in_1 0 (by decide) (gw_in m_180 rfl) rfl dX8_note_4 ?_
  refine lv_iload_n hx hb dX8_note_7 rfl (lv_at hl 1 rfl) ?_
  refine ro_i (run_V (As := [.int (i)]) (rest := []) hC.1 ckX7_isNut (kX7_isNut l g ay r i) (gw_in m_573 rfl) (fb_ro _ _ _) (va_recv hK.1 (kP_app.mp (kP_app.mp (kP_app.mp hP).2).2).1 (q0 := 0) rfl rfl) (fun U hU hW => ⟨by rw [hU]; exact (kP_app.mp (kP_app.mp (kP_app.mp hP).2).2).1, kK_warm hW hK⟩) ⟨rfl, rfl, Nat.le_of_ble_eq_true rfl, Nat.le_of_ble_eq_true rfl⟩ rfl hl.1 rfl (Nat.le_of_ble_eq_true rfl) dX8_note_8 ⟨Nat.le_of_ble_eq_true rfl, Nat.le_of_ble_eq_true rfl⟩) ?_
  refine lv_if_eq (tgt := 37) hx hb dX8_note_11 (by decide) (fun c1 => ?_) (fun c1 => ?_)
  · skip
    have c1 := b2i_0 c1
    refine lv_aload_n hx hb dX8_note_37 rfl (lv_at hl 0 rfl) ?_
    refine rw_i (run_V (As := []) (rest := []) hC.1 ckX8_bad (kX8_bad l g x (a 0) im te tr gu ab be tb tn tf) (gw_in m_320 rfl) (fb_rw _ _ _) (va_recv hK.1 (kP_app.mp hP).1 (q0 := 0) rfl rfl) (fun U hU hW => ⟨by rw [hU]; exact (kP_app.mpr ⟨(kP_app.mp hP).1, kP_nil⟩), kK_warm hW hK, vD_sub (sbA _ (sb0 _)) hD⟩) ⟨rfl, rfl, Nat.le_of_ble_eq_true rfl, Nat.le_of_ble_eq_true rfl⟩ rfl hl.1 rfl (Nat.le_of_ble_eq_true rfl) dX8_note_38 ⟨Nat.le_of_ble_eq_true rfl, Nat.le_of_ble_eq_true rfl⟩) (adr_app cO_adr rfl) (asc1 _ _) (ww' := cO g x (a 0) im te tr gu ab be (tb + 1) tn tf ++ (gW g a (ay 0) ps s1 (b2 0) s3 ++ (yW g ay r ++ (rW g b2 N1 6 f1 ++ [])))) (asc1 _ _) hP hD hS (fun H locs hP hD hS => ?_)
    exact ret_rwi hx hb hr hlk (by simp only [c1, if_true, if_false, eq_self, Bool.false_eq_true, Bool.and_true, Bool.true_and, Bool.and_false, Bool.false_and]) (kP_eq (by simp only [c1, if_true, if_false, eq_self, Bool.false_eq_true, Bool.and_true, Bool.true_and, Bool.and_false, Bool.false_and]) hP) hS dX8_note_41
  · skip
    have c1 := b2i_1 c1
    refine lv_iload_n hx hb dX8_note_14 rfl (lv_at hl 2 rfl) ?_
    refine lv_iconst (v := 0) hx hb dX8_note_15 rfl ?_
    refine lv_bipush (v := 9) hx hb dX8_note_16 rfl ?_
    refine ro_i (run_S (As := [.int (h), .int (0), .int (9)]) (rest := []) hC.1 ckX8_within (kX8_within l h 0 9) (gw_in m_317 rfl) (fb_nil _) (fun _ _ _ => trivial) ⟨rfl, rfl, Nat.le_of_ble_eq_true rfl, Nat.le_of_ble_eq_true rfl⟩ rfl hl.1 rfl (Nat.le_of_ble_eq_true rfl) dX8_note_18 ⟨Nat.le_of_ble_eq_true rfl, Nat.le_of_ble_eq_true rfl⟩) ?_
    refine lv_if_eq (tgt := 37) hx hb dX8_note_21 (by decide) (fun c2 => ?_) (fun c2 => ?_)
    · skip
      have c2 := b2i_0 c2
      refine lv_aload_n hx hb dX8_note_37 rfl (lv_at hl 0 rfl) ?_
      refine rw_i (run_V (As := []) (rest := []) hC.1 ckX8_bad (kX8_bad l g x (a 0) im te tr gu ab be tb tn tf) (gw_in m_320 rfl) (fb_rw _ _ _) (va_recv hK.1 (kP_app.mp hP).1 (q0 := 0) rfl rfl) (fun U hU hW => ⟨by rw [hU]; exact (kP_app.mpr ⟨(kP_app.mp hP).1, kP_nil⟩), kK_warm hW hK, vD_sub (sbA _ (sb0 _)) hD⟩) ⟨rfl, rfl, Nat.le_of_ble_eq_true rfl, Nat.le_of_ble_eq_true rfl⟩ rfl hl.1 rfl (Nat.le_of_ble_eq_true rfl) dX8_note_38 ⟨Nat.le_of_ble_eq_true rfl, Nat.le_of_ble_eq_true rfl⟩) (adr_app cO_adr rfl) (asc1 _ _) (ww' := cO g x (a 0) im te tr gu ab be (tb + 1) tn tf ++ (gW g a (ay 0) ps s1 (b2 0) s3 ++ (yW g ay r ++ (rW g b2 N1 6 f1 ++ [])))) (asc1 _ _) hP hD hS (fun H locs hP hD hS => ?_)
      exact ret_rwi hx hb hr hlk (by simp only [c1, c2, if_true, if_false, eq_self, Bool.false_eq_true, Bool.and_true, Bool.true_and, Bool.and_false, Bool.false_and]) (kP_eq (by simp only [c1, c2, if_true, if_false, eq_self, Bool.false_eq_true, Bool.and_true, Bool.true_and, Bool.and_false, Bool.false_and]) hP) hS dX8_note_41
    · skip
      have c2 := b2i_1 c2
      refine lv_iload_n hx hb dX8_note_24 rfl (lv_at hl 3 rfl) ?_
      refine lv_iload hx hb dX8_note_25 (lv_at hl 4 rfl) ?_
      refine lv_iload hx hb dX8_note_27 (lv_at hl 5 rfl) ?_
      refine lv_iload hx hb dX8_note_29 (lv_at hl 6 rfl) ?_
      refine ro_i (run_S (As := [.int (t), .int (c), .int (f), .int (v)]) (rest := []) hC.1 ckX8_isSight (kX8_isSight l t c f v) (gw_in m_739 rfl) (fb_nil _) (fun _ _ _ => trivial) ⟨rfl, rfl, Nat.le_of_ble_eq_true rfl, Nat.le_of_ble_eq_true rfl⟩ rfl hl.1 rfl (Nat.le_of_ble_eq_true rfl) dX8_note_31 ⟨Nat.le_of_ble_eq_true rfl, Nat.le_of_ble_eq_true rfl⟩) ?_
      refine lv_if_ne (tgt := 42) hx hb dX8_note_34 (by decide) (fun c3 => ?_) (fun c3 => ?_)
      · skip
        have c3 := b2i_1 c3
        refine lv_aload_n hx hb dX8_note_42 rfl (lv_at hl 0 rfl) ?_
        refine kget hC.1 hK (kP_app.mp hP).1 0 rfl rfl in_8 0 (by decide) (gw_in m_282 rfl) rfl dX8_note_43 ?_
        refine kget hC.1 hK (kP_app.mp (kP_app.mp hP).2).1 0 rfl rfl in_1 3 (by decide) (gw_in m_187 rfl) rfl dX8_note_46 ?_
        refine ro_i (run_V (As := []) (rest := []) hC.1 ckX4_isFull (kX4_isFull l g b2 N1 6 f1) (gw_in m_742 rfl) (fb_ro _ _ _) (va_recv hK.1 (kP_app.mp (kP_app.mp (kP_app.mp (kP_app.mp hP).2).2).2).1 (q0 := 0) rfl rfl) (fun U hU hW => ⟨by rw [hU]; exact (kP_app.mp (kP_app.mp (kP_app.mp (kP_app.mp hP).2).2).2).1, kK_warm hW hK⟩) ⟨rfl, rfl, Nat.le_of_ble_eq_true rfl, Nat.le_of_ble_eq_true rfl⟩ rfl hl.1 rfl (Nat.le_of_ble_eq_true rfl) dX8_note_49 ⟨Nat.le_of_ble_eq_true rfl, Nat.le_of_ble_eq_true rfl⟩) ?_
        refine lv_if_eq (tgt := 60) hx hb dX8_note_52 (by decide) (fun c4 => ?_) (fun c4 => ?_)
        · skip
          have c4 := b2i_0 c4
          have hful : ¬ N1 = 6 := by have h9 := c4; rw [show (6 : Int32) = nI 6 from rfl, decide_eq_false_iff_not, nI_leI (by omega) (by omega)] at h9; omega
          refine lv_aload_n hx hb dX8_note_60 rfl (lv_at hl 0 rfl) ?_
          refine kget hC.1 hK (kP_app.mp hP).1 0 rfl rfl in_8 0 (by decide) (gw_in m_282 rfl) rfl dX8_note_61 ?_
          refine kget hC.1 hK (kP_app.mp (kP_app.mp hP).2).1 0 rfl rfl in_1 3 (by decide) (gw_in m_187 rfl) rfl dX8_note_64 ?_
          refine lv_iload_n hx hb dX8_note_67 rfl (lv_at hl 1 rfl) ?_
          refine lv_iload_n hx hb dX8_note_68 rfl (lv_at hl 2 rfl) ?_
          refine lv_iload_n hx hb dX8_note_69 rfl (lv_at hl 3 rfl) ?_
          refine lv_iload hx hb dX8_note_70 (lv_at hl 4 rfl) ?_
          refine lv_iload hx hb dX8_note_72 (lv_at hl 5 rfl) ?_
          refine lv_iload hx hb dX8_note_74 (lv_at hl 6 rfl) ?_
          have hP : kP g (rW g b2 N1 6 f1 ++ (cO g x (a 0) im te tr gu ab be tb tn tf ++ (gW g a (ay 0) ps s1 (b2 0) s3 ++ (yW g ay r ++ [])))) _ := kP_perm (((pmA _ (pmA _ (pm_swap _ _ _))).trans (pmA _ (pm_swap _ _ _))).trans (pm_swap _ _ _)) hP
          have hD : va_D _ (rW g b2 N1 6 f1 ++ (cO g x (a 0) im te tr gu ab be tb tn tf ++ (gW g a (ay 0) ps s1 (b2 0) s3 ++ (yW g ay r ++ [])))) := vD_perm (((pmA _ (pmA _ (pm_swap _ _ _))).trans (pmA _ (pm_swap _ _ _))).trans (pm_swap _ _ _)) hD
          refine rw_i (run_V (As := [.int (i), .int (h), .int (t), .int (c), .int (f), .int (v)]) (rest := []) hC.1 ckX4_add (kX4_add l g b2 N1 6 f1 i h t c f v (by omega)) (gw_in m_746 rfl) (fb_rw _ _ _) (va_recv hK.1 (kP_app.mp hP).1 (q0 := 0) rfl rfl) (fun U hU hW => ⟨by rw [hU]; exact (kP_app.mpr ⟨(kP_app.mp hP).1, kP_nil⟩), kK_warm hW hK, vD_sub (sbA _ (sb0 _)) hD⟩) ⟨rfl, rfl, Nat.le_of_ble_eq_true rfl, Nat.le_of_ble_eq_true rfl⟩ rfl hl.1 rfl (Nat.le_of_ble_eq_true rfl) dX8_note_76 ⟨Nat.le_of_ble_eq_true rfl, Nat.le_of_ble_eq_true rfl⟩) (adr_app rW_adr rfl) (asc1 _ _) (ww' := rW g b2 (N1 + 1) 6 (add6 f1 N1 i h t c f v) ++ (cO g x (a 0) im te tr gu ab be tb tn tf ++ (gW g a (ay 0) ps s1 (b2 0) s3 ++ (yW g ay r ++ [])))) (asc1 _ _) hP hD hS (fun H locs hP hD hS => ?_)
          have hP : kP g (cO g x (a 0) im te tr gu ab be tb tn tf ++ (gW g a (ay 0) ps s1 (b2 0) s3 ++ (yW g ay r ++ (rW g b2 (N1 + 1) 6 (add6 f1 N1 i h t c f v) ++ [])))) _ := kP_perm (((pm_swap _ _ _).trans (pmA _ (pm_swap _ _ _))).trans (pmA _ (pmA _ (pm_swap _ _ _)))) hP
          have hD : va_D _ (cO g x (a 0) im te tr gu ab be tb tn tf ++ (gW g a (ay 0) ps s1 (b2 0) s3 ++ (yW g ay r ++ (rW g b2 (N1 + 1) 6 (add6 f1 N1 i h t c f v) ++ [])))) := vD_perm (((pm_swap _ _ _).trans (pmA _ (pm_swap _ _ _))).trans (pmA _ (pmA _ (pm_swap _ _ _)))) hD
          exact ret_rwi hx hb hr hlk (by rw [if_pos (show (yNut r i && wth h 0 9 && (wth t 0 99 && wth c 0 9 && wth f 0 44 && wth v 0 60)) = true from (by simp only [c1, c2, c3]; rfl)), if_neg hful]) (kP_eq (by have h9 : (yNut r i && wth h 0 9 && (wth t 0 99 && wth c 0 9 && wth f 0 44 && wth v 0 60)) = true := (by simp only [c1, c2, c3]; rfl); simp only [if_pos h9, hful, if_true, if_false]) hP) hS dX8_note_79
        · skip
          have c4 := b2i_1 c4
          have hful : N1 = 6 := by have h9 := c4; rw [show (6 : Int32) = nI 6 from rfl, decide_eq_true_eq, nI_leI (by omega) (by omega)] at h9; omega
          refine lv_aload_n hx hb dX8_note_55 rfl (lv_at hl 0 rfl) ?_
          refine rw_i (run_V (As := []) (rest := []) hC.1 ckX8_full (kX8_full l g x (a 0) im te tr gu ab be tb tn tf) (gw_in m_343 rfl) (fb_rw _ _ _) (va_recv hK.1 (kP_app.mp hP).1 (q0 := 0) rfl rfl) (fun U hU hW => ⟨by rw [hU]; exact (kP_app.mpr ⟨(kP_app.mp hP).1, kP_nil⟩), kK_warm hW hK, vD_sub (sbA _ (sb0 _)) hD⟩) ⟨rfl, rfl, Nat.le_of_ble_eq_true rfl, Nat.le_of_ble_eq_true rfl⟩ rfl hl.1 rfl (Nat.le_of_ble_eq_true rfl) dX8_note_56 ⟨Nat.le_of_ble_eq_true rfl, Nat.le_of_ble_eq_true rfl⟩) (adr_app cO_adr rfl) (asc1 _ _) (ww' := cO g x (a 0) im te tr gu ab be tb tn (tf + 1) ++ (gW g a (ay 0) ps s1 (b2 0) s3 ++ (yW g ay r ++ (rW g b2 N1 6 f1 ++ [])))) (asc1 _ _) hP hD hS (fun H locs hP hD hS => ?_)
          exact ret_rwi hx hb hr hlk (by rw [if_pos (show (yNut r i && wth h 0 9 && (wth t 0 99 && wth c 0 9 && wth f 0 44 && wth v 0 60)) = true from (by simp only [c1, c2, c3]; rfl)), if_pos hful]) (kP_eq (by have h9 : (yNut r i && wth h 0 9 && (wth t 0 99 && wth c 0 9 && wth f 0 44 && wth v 0 60)) = true := (by simp only [c1, c2, c3]; rfl); simp only [if_pos h9, hful, if_true, if_false]) hP) hS dX8_note_59
      · skip
        have c3 := b2i_0 c3
        refine lv_aload_n hx hb dX8_note_37 rfl (lv_at hl 0 rfl) ?_
        refine rw_i (run_V (As := []) (rest := []) hC.1 ckX8_bad (kX8_bad l g x (a 0) im te tr gu ab be tb tn tf) (gw_in m_320 rfl) (fb_rw _ _ _) (va_recv hK.1 (kP_app.mp hP).1 (q0 := 0) rfl rfl) (fun U hU hW => ⟨by rw [hU]; exact (kP_app.mpr ⟨(kP_app.mp hP).1, kP_nil⟩), kK_warm hW hK, vD_sub (sbA _ (sb0 _)) hD⟩) ⟨rfl, rfl, Nat.le_of_ble_eq_true rfl, Nat.le_of_ble_eq_true rfl⟩ rfl hl.1 rfl (Nat.le_of_ble_eq_true rfl) dX8_note_38 ⟨Nat.le_of_ble_eq_true rfl, Nat.le_of_ble_eq_true rfl⟩) (adr_app cO_adr rfl) (asc1 _ _) (ww' := cO g x (a 0) im te tr gu ab be (tb + 1) tn tf ++ (gW g a (ay 0) ps s1 (b2 0) s3 ++ (yW g ay r ++ (rW g b2 N1 6 f1 ++ [])))) (asc1 _ _) hP hD hS (fun H locs hP hD hS => ?_)
        exact ret_rwi hx hb hr hlk (by simp only [c1, c2, c3, if_true, if_false, eq_self, Bool.false_eq_true, Bool.and_true, Bool.true_and, Bool.and_false, Bool.false_and]) (kP_eq (by simp only [c1, c2, c3, if_true, if_false, eq_self, Bool.false_eq_true, Bool.and_true, Bool.true_and, Bool.and_false, Bool.false_and]) hP) hS dX8_note_41
set_option maxHeartbeats 4000000 in
set_option maxRecDepth 100000 in
theorem kX8_mark (l : Launch) (g : gG) (x : Nat → Nat) (im te tr gu : Nat) (ab be : Int64) (tb tn tf : Int32) (a ay b3 : Nat → Nat) (ps s1 s2 : Nat) (r : Nat → Int32) (N1 : Nat) (f1 : Nat → Int32) (p q w t v : Int32) (hw : Wf r) (hNl : N1 ≤ 6) : Met l yX8_mark (.code yX8_mark cX8_mark 6 (some .int) :: gw) (rmN 1) (va_Pc [.ref (x 0), .int (p), .int (q), .int (w), .int (t), .int (v)] (rwPre g (cO g x (a 0) im te tr gu ab be tb tn tf ++ (gW g a (ay 0) ps s1 s2 (b3 0) ++ (yW g ay r ++ (rW g b3 N1 6 f1 ++ [])))))) (rwQi g (cO g x (a 0) im te tr gu ab be tb tn tf ++ (gW g a (ay 0) ps s1 s2 (b3 0) ++ (yW g ay r ++ (rW g b3 N1 6 f1 ++ [])))) (cO g x (a 0) im te tr gu ab be (if (yPl r p && wth q 1 9 && wth w 1 9 && wth t 0 99 && wth v 0 60) = true then tb else tb + 1) tn (if (yPl r p && wth q 1 9 && wth w 1 9 && wth t 0 99 && wth v 0 60) = true then (if N1 = 6 then tf + 1 else tf) else tf) ++ (gW g a (ay 0) ps s1 s2 (b3 0) ++ (yW g ay r ++ (rW g b3 (if (yPl r p && wth q 1 9 && wth w 1 9 && wth t 0 99 && wth v 0 60) = true then (if N1 = 6 then N1 else N1 + 1) else N1) 6 (if (yPl r p && wth q 1 9 && wth w 1 9 && wth t 0 99 && wth v 0 60) = true then (if N1 = 6 then f1 else add6 f1 N1 p q w t v 0) else f1) ++ [])))) (if (yPl r p && wth q 1 9 && wth w 1 9 && wth t 0 99 && wth v 0 60) = true then (if N1 = 6 then -4 else nI (N1 + 1)) else -2)) 0 0 (dm (cO g x (a 0) im te tr gu ab be tb tn tf ++ (gW g a (ay 0) ps s1 s2 (b3 0) ++ (yW g ay r ++ (rW g b3 N1 6 f1 ++ []))))) := by
  refine met_start (by decide) (Nat.le_of_ble_eq_true rfl) ?_
  intro pp ee ss mm bl mt cd hC hpre ls hl
  obtain ⟨⟨hx, hb, hml, hown, hts⟩, hr, hlk, hnm⟩ := id hC
  have hl : lv_has ls 6 [(0, .ref (x 0)), (1, .int (p)), (2, .int (q)), (3, .int (w)), (4, .int (t)), (5, .int (v))] := hl
  obtain ⟨hP, hK, hD⟩ := hpre
  have hS : va_S (dm (cO g x (a 0) im te tr gu ab be tb tn tf ++ (gW g a (ay 0) ps s1 s2 (b3 0) ++ (yW g ay r ++ (rW g b3 N1 6 f1 ++ []))))) ss.heap ss.heap [] := va_S.rf
  have hD := vD_self hD
  refine lv_aload_n hx hb dX8_mark_0 rfl (lv_at hl 0 rfl) ?_
  refine kget hC.1 hK (kP_app.mp hP).1 0 rfl rfl in_8 0 (by decide) (gw_in m_282 rfl) rfl dX8_mark_1 ?_
  refine kget hC.1 hK (kP_app.mp (kP_app.mp hP).2).1 0 rfl rfl in_1 0 (by decide) (gw_in m_180 rfl) rfl dX8_mark_4 ?_
  refine lv_iload_n hx hb dX8_mark_7 rfl (lv_at hl 1 rfl) ?_
  refine ro_i (run_V (As := [.int (p)]) (rest := []) hC.1 ckX7_isPlayer (kX7_isPlayer l g ay r p) (gw_in m_356 rfl) (fb_ro _ _ _) (va_recv hK.1 (kP_app.mp (kP_app.mp (kP_app.mp hP).2).2).1 (q0 := 0) rfl rfl) (fun U hU hW => ⟨by rw [hU]; exact (kP_app.mp (kP_app.mp (kP_app.mp hP).2).2).1, kK_warm hW hK⟩) ⟨rfl, rfl, Nat.le_of_ble_eq_true rfl, Nat.le_of_ble_eq_true rfl⟩ rfl hl.1 rfl (Nat.le_of_ble_eq_true rfl) dX8_mark_8 ⟨Nat.le_of_ble_eq_true rfl, Nat.le_of_ble_eq_true rfl⟩) ?_
  refine lv_if_eq (tgt := 34) hx hb dX8_mark_11 (by decide) (fun c1 => ?_) (fun c1 => ?_)
  · skip
    have c1 := b2i_0 c1
    refine lv_aload_n hx hb dX8_mark_34 rfl (lv_at hl 0 rfl) ?_
    refine rw_i (run_V (As := []) (rest := []) hC.1 ckX8_bad (kX8_bad l g x (a 0) im te tr gu ab be tb tn tf) (gw_in m_320 rfl) (fb_rw _ _ _) (va_recv hK.1 (kP_app.mp hP).1 (q0 := 0) rfl rfl) (fun U hU hW => ⟨by rw [hU]; exact (kP_app.mpr ⟨(kP_app.mp hP).1, kP_nil⟩), kK_warm hW hK, vD_sub (sbA _ (sb0 _)) hD⟩) ⟨rfl, rfl, Nat.le_of_ble_eq_true rfl, Nat.le_of_ble_eq_true rfl⟩ rfl hl.1 rfl (Nat.le_of_ble_eq_true rfl) dX8_mark_35 ⟨Nat.le_of_ble_eq_true rfl, Nat.le_of_ble_eq_true rfl⟩) (adr_app cO_adr rfl) (asc1 _ _) (ww' := cO g x (a 0) im te tr gu ab be (tb + 1) tn tf ++ (gW g a (ay 0) ps s1 s2 (b3 0) ++ (yW g ay r ++ (rW g b3 N1 6 f1 ++ [])))) (asc1 _ _) hP hD hS (fun H locs hP hD hS => ?_)
    exact ret_rwi hx hb hr hlk (by simp only [c1, if_true, if_false, eq_self, Bool.false_eq_true, Bool.and_true, Bool.true_and, Bool.and_false, Bool.false_and]) (kP_eq (by simp only [c1, if_true, if_false, eq_self, Bool.false_eq_true, Bool.and_true, Bool.true_and, Bool.and_false, Bool.false_and]) hP) hS dX8_mark_38
  · skip
    have c1 := b2i_1 c1
    refine lv_iload_n hx hb dX8_mark_14 rfl (lv_at hl 2 rfl) ?_
    refine lv_iconst (v := 1) hx hb dX8_mark_15 rfl ?_
    refine lv_bipush (v := 9) hx hb dX8_mark_16 rfl ?_
    refine ro_i (run_S (As := [.int (q), .int (1), .int (9)]) (rest := []) hC.1 ckX8_within (kX8_within l q 1 9) (gw_in m_317 rfl) (fb_nil _) (fun _ _ _ => trivial) ⟨rfl, rfl, Nat.le_of_ble_eq_true rfl, Nat.le_of_ble_eq_true rfl⟩ rfl hl.1 rfl (Nat.le_of_ble_eq_true rfl) dX8_mark_18 ⟨Nat.le_of_ble_eq_true rfl, Nat.le_of_ble_eq_true rfl⟩) ?_
    refine lv_if_eq (tgt := 34) hx hb dX8_mark_21 (by decide) (fun c2 => ?_) (fun c2 => ?_)
    · skip
      have c2 := b2i_0 c2
      refine lv_aload_n hx hb dX8_mark_34 rfl (lv_at hl 0 rfl) ?_
      refine rw_i (run_V (As := []) (rest := []) hC.1 ckX8_bad (kX8_bad l g x (a 0) im te tr gu ab be tb tn tf) (gw_in m_320 rfl) (fb_rw _ _ _) (va_recv hK.1 (kP_app.mp hP).1 (q0 := 0) rfl rfl) (fun U hU hW => ⟨by rw [hU]; exact (kP_app.mpr ⟨(kP_app.mp hP).1, kP_nil⟩), kK_warm hW hK, vD_sub (sbA _ (sb0 _)) hD⟩) ⟨rfl, rfl, Nat.le_of_ble_eq_true rfl, Nat.le_of_ble_eq_true rfl⟩ rfl hl.1 rfl (Nat.le_of_ble_eq_true rfl) dX8_mark_35 ⟨Nat.le_of_ble_eq_true rfl, Nat.le_of_ble_eq_true rfl⟩) (adr_app cO_adr rfl) (asc1 _ _) (ww' := cO g x (a 0) im te tr gu ab be (tb + 1) tn tf ++ (gW g a (ay 0) ps s1 s2 (b3 0) ++ (yW g ay r ++ (rW g b3 N1 6 f1 ++ [])))) (asc1 _ _) hP hD hS (fun H locs hP hD hS => ?_)
      exact ret_rwi hx hb hr hlk (by simp only [c1, c2, if_true, if_false, eq_self, Bool.false_eq_true, Bool.and_true, Bool.true_and, Bool.and_false, Bool.false_and]) (kP_eq (by simp only [c1, c2, if_true, if_false, eq_self, Bool.false_eq_true, Bool.and_true, Bool.true_and, Bool.and_false, Bool.false_and]) hP) hS dX8_mark_38
    · skip
      have c2 := b2i_1 c2
      refine lv_iload_n hx hb dX8_mark_24 rfl (lv_at hl 3 rfl) ?_
      refine lv_iconst (v := 1) hx hb dX8_mark_25 rfl ?_
      refine lv_bipush (v := 9) hx hb dX8_mark_26 rfl ?_
      refine ro_i (run_S (As := [.int (w), .int (1), .int (9)]) (rest := []) hC.1 ckX8_within (kX8_within l w 1 9) (gw_in m_317 rfl) (fb_nil _) (fun _ _ _ => trivial) ⟨rfl, rfl, Nat.le_of_ble_eq_true rfl, Nat.le_of_ble_eq_true rfl⟩ rfl hl.1 rfl (Nat.le_of_ble_eq_true rfl) dX8_mark_28 ⟨Nat.le_of_ble_eq_true rfl, Nat.le_of_ble_eq_true rfl⟩) ?_
      refine lv_if_ne (tgt := 39) hx hb dX8_mark_31 (by decide) (fun c3 => ?_) (fun c3 => ?_)
      · skip
        have c3 := b2i_1 c3
        refine lv_iload hx hb dX8_mark_39 (lv_at hl 4 rfl) ?_
        refine lv_iconst (v := 0) hx hb dX8_mark_41 rfl ?_
        refine lv_bipush (v := 99) hx hb dX8_mark_42 rfl ?_
        refine ro_i (run_S (As := [.int (t), .int (0), .int (99)]) (rest := []) hC.1 ckX8_within (kX8_within l t 0 99) (gw_in m_317 rfl) (fb_nil _) (fun _ _ _ => trivial) ⟨rfl, rfl, Nat.le_of_ble_eq_true rfl, Nat.le_of_ble_eq_true rfl⟩ rfl hl.1 rfl (Nat.le_of_ble_eq_true rfl) dX8_mark_44 ⟨Nat.le_of_ble_eq_true rfl, Nat.le_of_ble_eq_true rfl⟩) ?_
        refine lv_if_eq (tgt := 61) hx hb dX8_mark_47 (by decide) (fun c4 => ?_) (fun c4 => ?_)
        · skip
          have c4 := b2i_0 c4
          refine lv_aload_n hx hb dX8_mark_61 rfl (lv_at hl 0 rfl) ?_
          refine rw_i (run_V (As := []) (rest := []) hC.1 ckX8_bad (kX8_bad l g x (a 0) im te tr gu ab be tb tn tf) (gw_in m_320 rfl) (fb_rw _ _ _) (va_recv hK.1 (kP_app.mp hP).1 (q0 := 0) rfl rfl) (fun U hU hW => ⟨by rw [hU]; exact (kP_app.mpr ⟨(kP_app.mp hP).1, kP_nil⟩), kK_warm hW hK, vD_sub (sbA _ (sb0 _)) hD⟩) ⟨rfl, rfl, Nat.le_of_ble_eq_true rfl, Nat.le_of_ble_eq_true rfl⟩ rfl hl.1 rfl (Nat.le_of_ble_eq_true rfl) dX8_mark_62 ⟨Nat.le_of_ble_eq_true rfl, Nat.le_of_ble_eq_true rfl⟩) (adr_app cO_adr rfl) (asc1 _ _) (ww' := cO g x (a 0) im te tr gu ab be (tb + 1) tn tf ++ (gW g a (ay 0) ps s1 s2 (b3 0) ++ (yW g ay r ++ (rW g b3 N1 6 f1 ++ [])))) (asc1 _ _) hP hD hS (fun H locs hP hD hS => ?_)
          exact ret_rwi hx hb hr hlk (by simp only [c1, c2, c3, c4, if_true, if_false, eq_self, Bool.false_eq_true, Bool.and_true, Bool.true_and, Bool.and_false, Bool.false_and]) (kP_eq (by simp only [c1, c2, c3, c4, if_true, if_false, eq_self, Bool.false_eq_true, Bool.and_true, Bool.true_and, Bool.and_false, Bool.false_and]) hP) hS dX8_mark_65
        · skip
          have c4 := b2i_1 c4
          refine lv_iload hx hb dX8_mark_50 (lv_at hl 5 rfl) ?_
          refine lv_iconst (v := 0) hx hb dX8_mark_52 rfl ?_
          refine lv_bipush (v := 60) hx hb dX8_mark_53 rfl ?_
          refine ro_i (run_S (As := [.int (v), .int (0), .int (60)]) (rest := []) hC.1 ckX8_within (kX8_within l v 0 60) (gw_in m_317 rfl) (fb_nil _) (fun _ _ _ => trivial) ⟨rfl, rfl, Nat.le_of_ble_eq_true rfl, Nat.le_of_ble_eq_true rfl⟩ rfl hl.1 rfl (Nat.le_of_ble_eq_true rfl) dX8_mark_55 ⟨Nat.le_of_ble_eq_true rfl, Nat.le_of_ble_eq_true rfl⟩) ?_
          refine lv_if_ne (tgt := 66) hx hb dX8_mark_58 (by decide) (fun c5 => ?_) (fun c5 => ?_)
          · skip
            have c5 := b2i_1 c5
            refine lv_aload_n hx hb dX8_mark_66 rfl (lv_at hl 0 rfl) ?_
            refine kget hC.1 hK (kP_app.mp hP).1 0 rfl rfl in_8 0 (by decide) (gw_in m_282 rfl) rfl dX8_mark_67 ?_
            refine kget hC.1 hK (kP_app.mp (kP_app.mp hP).2).1 0 rfl rfl in_1 4 (by decide) (gw_in m_189 rfl) rfl dX8_mark_70 ?_
            refine ro_i (run_V (As := []) (rest := []) hC.1 ckX4_isFull (kX4_isFull l g b3 N1 6 f1) (gw_in m_742 rfl) (fb_ro _ _ _) (va_recv hK.1 (kP_app.mp (kP_app.mp (kP_app.mp (kP_app.mp hP).2).2).2).1 (q0 := 0) rfl rfl) (fun U hU hW => ⟨by rw [hU]; exact (kP_app.mp (kP_app.mp (kP_app.mp (kP_app.mp hP).2).2).2).1, kK_warm hW hK⟩) ⟨rfl, rfl, Nat.le_of_ble_eq_true rfl, Nat.le_of_ble_eq_true rfl⟩ rfl hl.1 rfl (Nat.le_of_ble_eq_true rfl) dX8_mark_73 ⟨Nat.le_of_ble_eq_true rfl, Nat.le_of_ble_eq_true rfl⟩) ?_
            refine lv_if_eq (tgt := 84) hx hb dX8_mark_76 (by decide) (fun c6 => ?_) (fun c6 => ?_)
            · skip
              have c6 := b2i_0 c6
              have hful : ¬ N1 = 6 := by have h9 := c6; rw [show (6 : Int32) = nI 6 from rfl, decide_eq_false_iff_not, nI_leI (by omega) (by omega)] at h9; omega
              refine lv_aload_n hx hb dX8_mark_84 rfl (lv_at hl 0 rfl) ?_
              refine kget hC.1 hK (kP_app.mp hP).1 0 rfl rfl in_8 0 (by decide) (gw_in m_282 rfl) rfl dX8_mark_85 ?_
              refine kget hC.1 hK (kP_app.mp (kP_app.mp hP).2).1 0 rfl rfl in_1 4 (by decide) (gw_in m_189 rfl) rfl dX8_mark_88 ?_
              refine lv_iload_n hx hb dX8_mark_91 rfl (lv_at hl 1 rfl) ?_
              refine lv_iload_n hx hb dX8_mark_92 rfl (lv_at hl 2 rfl) ?_
              refine lv_iload_n hx hb dX8_mark_93 rfl (lv_at hl 3 rfl) ?_
              refine lv_iload hx hb dX8_mark_94 (lv_at hl 4 rfl) ?_
              refine lv_iload hx hb dX8_mark_96 (lv_at hl 5 rfl) ?_
              refine lv_iconst (v := 0) hx hb dX8_mark_98 rfl ?_
              have hP : kP g (rW g b3 N1 6 f1 ++ (cO g x (a 0) im te tr gu ab be tb tn tf ++ (gW g a (ay 0) ps s1 s2 (b3 0) ++ (yW g ay r ++ [])))) _ := kP_perm (((pmA _ (pmA _ (pm_swap _ _ _))).trans (pmA _ (pm_swap _ _ _))).trans (pm_swap _ _ _)) hP
              have hD : va_D _ (rW g b3 N1 6 f1 ++ (cO g x (a 0) im te tr gu ab be tb tn tf ++ (gW g a (ay 0) ps s1 s2 (b3 0) ++ (yW g ay r ++ [])))) := vD_perm (((pmA _ (pmA _ (pm_swap _ _ _))).trans (pmA _ (pm_swap _ _ _))).trans (pm_swap _ _ _)) hD
              refine rw_i (run_V (As := [.int (p), .int (q), .int (w), .int (t), .int (v), .int (0)]) (rest := []) hC.1 ckX4_add (kX4_add l g b3 N1 6 f1 p q w t v 0 (by omega)) (gw_in m_746 rfl) (fb_rw _ _ _) (va_recv hK.1 (kP_app.mp hP).1 (q0 := 0) rfl rfl) (fun U hU hW => ⟨by rw [hU]; exact (kP_app.mpr ⟨(kP_app.mp hP).1, kP_nil⟩), kK_warm hW hK, vD_sub (sbA _ (sb0 _)) hD⟩) ⟨rfl, rfl, Nat.le_of_ble_eq_true rfl, Nat.le_of_ble_eq_true rfl⟩ rfl hl.1 rfl (Nat.le_of_ble_eq_true rfl) dX8_mark_99 ⟨Nat.le_of_ble_eq_true rfl, Nat.le_of_ble_eq_true rfl⟩) (adr_app rW_adr rfl) (asc1 _ _) (ww' := rW g b3 (N1 + 1) 6 (add6 f1 N1 p q w t v 0) ++ (cO g x (a 0) im te tr gu ab be tb tn tf ++ (gW g a (ay 0) ps s1 s2 (b3 0) ++ (yW g ay r ++ [])))) (asc1 _ _) hP hD hS (fun H locs hP hD hS => ?_)
              have hP : kP g (cO g x (a 0) im te tr gu ab be tb tn tf ++ (gW g a (ay 0) ps s1 s2 (b3 0) ++ (yW g ay r ++ (rW g b3 (N1 + 1) 6 (add6 f1 N1 p q w t v 0) ++ [])))) _ := kP_perm (((pm_swap _ _ _).trans (pmA _ (pm_swap _ _ _))).trans (pmA _ (pmA _ (pm_swap _ _ _)))) hP
              have hD : va_D _ (cO g x (a 0) im te tr gu ab be tb tn tf ++ (gW g a (ay 0) ps s1 s2 (b3 0) ++ (yW g ay r ++ (rW g b3 (N1 + 1) 6 (add6 f1 N1 p q w t v 0) ++ [])))) := vD_perm (((pm_swap _ _ _).trans (pmA _ (pm_swap _ _ _))).trans (pmA _ (pmA _ (pm_swap _ _ _)))) hD
              exact ret_rwi hx hb hr hlk (by rw [if_pos (show (yPl r p && wth q 1 9 && wth w 1 9 && wth t 0 99 && wth v 0 60) = true from (by simp only [c1, c2, c3, c4, c5]; rfl)), if_neg hful]) (kP_eq (by have h9 : (yPl r p && wth q 1 9 && wth w 1 9 && wth t 0 99 && wth v 0 60) = true := (by simp only [c1, c2, c3, c4, c5]; rfl); simp only [if_pos h9, hful, if_true, if_false]) hP) hS dX8_mark_102
            · skip
              have c6 := b2i_1 c6
              have hful : N1 = 6 := by have h9 := c6; rw [show (6 : Int32) = nI 6 from rfl, decide_eq_true_eq, nI_leI (by omega) (by omega)] at h9; omega
              refine lv_aload_n hx hb dX8_mark_79 rfl (lv_at hl 0 rfl) ?_
              refine rw_i (run_V (As := []) (rest := []) hC.1 ckX8_full (kX8_full l g x (a 0) im te tr gu ab be tb tn tf) (gw_in m_343 rfl) (fb_rw _ _ _) (va_recv hK.1 (kP_app.mp hP).1 (q0 := 0) rfl rfl) (fun U hU hW => ⟨by rw [hU]; exact (kP_app.mpr ⟨(kP_app.mp hP).1, kP_nil⟩), kK_warm hW hK, vD_sub (sbA _ (sb0 _)) hD⟩) ⟨rfl, rfl, Nat.le_of_ble_eq_true rfl, Nat.le_of_ble_eq_true rfl⟩ rfl hl.1 rfl (Nat.le_of_ble_eq_true rfl) dX8_mark_80 ⟨Nat.le_of_ble_eq_true rfl, Nat.le_of_ble_eq_true rfl⟩) (adr_app cO_adr rfl) (asc1 _ _) (ww' := cO g x (a 0) im te tr gu ab be tb tn (tf + 1) ++ (gW g a (ay 0) ps s1 s2 (b3 0) ++ (yW g ay r ++ (rW g b3 N1 6 f1 ++ [])))) (asc1 _ _) hP hD hS (fun H locs hP hD hS => ?_)
              exact ret_rwi hx hb hr hlk (by rw [if_pos (show (yPl r p && wth q 1 9 && wth w 1 9 && wth t 0 99 && wth v 0 60) = true from (by simp only [c1, c2, c3, c4, c5]; rfl)), if_pos hful]) (kP_eq (by have h9 : (yPl r p && wth q 1 9 && wth w 1 9 && wth t 0 99 && wth v 0 60) = true := (by simp only [c1, c2, c3, c4, c5]; rfl); simp only [if_pos h9, hful, if_true, if_false]) hP) hS dX8_mark_83
          · skip
            have c5 := b2i_0 c5
            refine lv_aload_n hx hb dX8_mark_61 rfl (lv_at hl 0 rfl) ?_
            refine rw_i (run_V (As := []) (rest := []) hC.1 ckX8_bad (kX8_bad l g x (a 0) im te tr gu ab be tb tn tf) (gw_in m_320 rfl) (fb_rw _ _ _) (va_recv hK.1 (kP_app.mp hP).1 (q0 := 0) rfl rfl) (fun U hU hW => ⟨by rw [hU]; exact (kP_app.mpr ⟨(kP_app.mp hP).1, kP_nil⟩), kK_warm hW hK, vD_sub (sbA _ (sb0 _)) hD⟩) ⟨rfl, rfl, Nat.le_of_ble_eq_true rfl, Nat.le_of_ble_eq_true rfl⟩ rfl hl.1 rfl (Nat.le_of_ble_eq_true rfl) dX8_mark_62 ⟨Nat.le_of_ble_eq_true rfl, Nat.le_of_ble_eq_true rfl⟩) (adr_app cO_adr rfl) (asc1 _ _) (ww' := cO g x (a 0) im te tr gu ab be (tb + 1) tn tf ++ (gW g a (ay 0) ps s1 s2 (b3 0) ++ (yW g ay r ++ (rW g b3 N1 6 f1 ++ [])))) (asc1 _ _) hP hD hS (fun H locs hP hD hS => ?_)
            exact ret_rwi hx hb hr hlk (by simp only [c1, c2, c3, c4, c5, if_true, if_false, eq_self, Bool.false_eq_true, Bool.and_true, Bool.true_and, Bool.and_false, Bool.false_and]) (kP_eq (by simp only [c1, c2, c3, c4, c5, if_true, if_false, eq_self, Bool.false_eq_true, Bool.and_true, Bool.true_and, Bool.and_false, Bool.false_and]) hP) hS dX8_mark_65
      · skip
        have c3 := b2i_0 c3
        refine lv_aload_n hx hb dX8_mark_34 rfl (lv_at hl 0 rfl) ?_
        refine rw_i (run_V (As := []) (rest := []) hC.1 ckX8_bad (kX8_bad l g x (a 0) im te tr gu ab be tb tn tf) (gw_in m_320 rfl) (fb_rw _ _ _) (va_recv hK.1 (kP_app.mp hP).1 (q0 := 0) rfl rfl) (fun U hU hW => ⟨by rw [hU]; exact (kP_app.mpr ⟨(kP_app.mp hP).1, kP_nil⟩), kK_warm hW hK, vD_sub (sbA _ (sb0 _)) hD⟩) ⟨rfl, rfl, Nat.le_of_ble_eq_true rfl, Nat.le_of_ble_eq_true rfl⟩ rfl hl.1 rfl (Nat.le_of_ble_eq_true rfl) dX8_mark_35 ⟨Nat.le_of_ble_eq_true rfl, Nat.le_of_ble_eq_true rfl⟩) (adr_app cO_adr rfl) (asc1 _ _) (ww' := cO g x (a 0) im te tr gu ab be (tb + 1) tn tf ++ (gW g a (ay 0) ps s1 s2 (b3 0) ++ (yW g ay r ++ (rW g b3 N1 6 f1 ++ [])))) (asc1 _ _) hP hD hS (fun H locs hP hD hS => ?_)
        exact ret_rwi hx hb hr hlk (by simp only [c1, c2, c3, if_true, if_false, eq_self, Bool.false_eq_true, Bool.and_true, Bool.true_and, Bool.and_false, Bool.false_and]) (kP_eq (by simp only [c1, c2, c3, if_true, if_false, eq_self, Bool.false_eq_true, Bool.and_true, Bool.true_and, Bool.and_false, Bool.false_and]) hP) hS dX8_mark_38
set_option maxHeartbeats 4000000 in
set_option maxRecDepth 100000 in
theorem kX8_forget (l : Launch) (g : gG) (x : Nat → Nat) (im te tr gu : Nat) (ab be : Int64) (tb tn tf : Int32) (a b1 b2 b3 : Nat → Nat) (y ps : Nat) (N1 N2 N3 : Nat) (l1 l2 l3 : Int32) (f1 f2 f3 : Nat → Int32) (w : Int32) : Met l yX8_forget (.code yX8_forget cX8_forget 4 (some .int) :: gw) (rmN 1) (va_Pc [.ref (x 0), .int (w)] (rwPre g (cO g x (a 0) im te tr gu ab be tb tn tf ++ (gW g a y ps (b1 0) (b2 0) (b3 0) ++ (rW g b1 N1 l1 f1 ++ (rW g b2 N2 l2 f2 ++ (rW g b3 N3 l3 f3 ++ []))))))) (rwQi g (cO g x (a 0) im te tr gu ab be tb tn tf ++ (gW g a y ps (b1 0) (b2 0) (b3 0) ++ (rW g b1 N1 l1 f1 ++ (rW g b2 N2 l2 f2 ++ (rW g b3 N3 l3 f3 ++ []))))) (cO g x (a 0) im te tr gu ab be (if wth w 0 2 = true then tb else tb + 1) tn tf ++ (gW g a y ps (b1 0) (b2 0) (b3 0) ++ (rW g b1 (if wth w 0 2 = true then if w = 0 then 0 else N1 else N1) l1 f1 ++ (rW g b2 (if wth w 0 2 = true then if w = 1 then 0 else N2 else N2) l2 f2 ++ (rW g b3 (if wth w 0 2 = true then if ¬ w = 0 ∧ ¬ w = 1 then 0 else N3 else N3) l3 f3 ++ []))))) (if wth w 0 2 = true then (if w = 0 then nI N1 else if w = 1 then nI N2 else nI N3) else -2)) 0 0 (dm (cO g x (a 0) im te tr gu ab be tb tn tf ++ (gW g a y ps (b1 0) (b2 0) (b3 0) ++ (rW g b1 N1 l1 f1 ++ (rW g b2 N2 l2 f2 ++ (rW g b3 N3 l3 f3 ++ [])))))) := by
  refine met_start (by decide) (Nat.le_of_ble_eq_true rfl) ?_
  intro pp ee ss mm bl mt cd hC hpre ls hl
  obtain ⟨⟨hx, hb, hml, hown, hts⟩, hr, hlk, hnm⟩ := id hC
  have hl : lv_has ls 4 [(0, .ref (x 0)), (1, .int (w))] := hl
  obtain ⟨hP, hK, hD⟩ := hpre
  have hS : va_S (dm (cO g x (a 0) im te tr gu ab be tb tn tf ++ (gW g a y ps (b1 0) (b2 0) (b3 0) ++ (rW g b1 N1 l1 f1 ++ (rW g b2 N2 l2 f2 ++ (rW g b3 N3 l3 f3 ++ [])))))) ss.heap ss.heap [] := va_S.rf
  have hD := vD_self hD
  refine lv_iload_n hx hb dX8_forget_0 rfl (lv_at hl 1 rfl) ?_
  refine lv_iconst (v := 0) hx hb dX8_forget_1 rfl ?_
  refine lv_iconst (v := 2) hx hb dX8_forget_2 rfl ?_
  refine ro_i (run_S (As := [.int (w), .int (0), .int (2)]) (rest := []) hC.1 ckX8_within (kX8_within l w 0 2) (gw_in m_317 rfl) (fb_nil _) (fun _ _ _ => trivial) ⟨rfl, rfl, Nat.le_of_ble_eq_true rfl, Nat.le_of_ble_eq_true rfl⟩ rfl hl.1 rfl (Nat.le_of_ble_eq_true rfl) dX8_forget_3 ⟨Nat.le_of_ble_eq_true rfl, Nat.le_of_ble_eq_true rfl⟩) ?_
  refine lv_if_ne (tgt := 14) hx hb dX8_forget_6 (by decide) (fun c1 => ?_) (fun c1 => ?_)
  · skip
    have c1 := b2i_1 c1
    rcases w_012 c1 with rfl | rfl | rfl
    · skip
      refine lv_aload_n hx hb dX8_forget_14 rfl (lv_at hl 0 rfl) ?_
      refine kget hC.1 hK (kP_app.mp hP).1 0 rfl rfl in_8 0 (by decide) (gw_in m_282 rfl) rfl dX8_forget_15 ?_
      refine lv_iload_n hx hb dX8_forget_18 rfl (lv_at hl 1 rfl) ?_
      refine ro_r (run_V (As := [.int (0)]) (rest := []) hC.1 ckX1_rowsOf (kX1_rowsOf_0 l g a y ps (b1 0) (b2 0) (b3 0)) (gw_in m_808 rfl) (fb_ro _ _ _) (va_recv hK.1 (kP_app.mp (kP_app.mp hP).2).1 (q0 := 0) rfl rfl) (fun U hU hW => ⟨by rw [hU]; exact (kP_app.mp (kP_app.mp hP).2).1, kK_warm hW hK⟩) ⟨rfl, rfl, Nat.le_of_ble_eq_true rfl, Nat.le_of_ble_eq_true rfl⟩ rfl hl.1 rfl (Nat.le_of_ble_eq_true rfl) dX8_forget_19 ⟨Nat.le_of_ble_eq_true rfl, Nat.le_of_ble_eq_true rfl⟩) ?_
      refine lv_astore_n (lv' := [(2, .ref (b1 0)), (0, .ref (x 0)), (1, .int (0))]) hx hb dX8_forget_22 rfl hl (by decide) rfl (fun ls hl => ?_)
      refine lv_aload_n hx hb dX8_forget_23 rfl (lv_at hl 0 rfl) ?_
      refine kget hC.1 hK (kP_app.mp (kP_app.mp (kP_app.mp hP).2).2).1 0 rfl rfl in_4 0 (by decide) (gw_in m_169 rfl) rfl dX8_forget_24 ?_
      refine lv_istore_n (lv' := [(3, .int (nI N1)), (2, .ref (b1 0)), (0, .ref (x 0)), (1, .int (0))]) hx hb dX8_forget_27 rfl hl (by decide) rfl (fun ls hl => ?_)
      refine lv_aload_n hx hb dX8_forget_28 rfl (lv_at hl 1 rfl) ?_
      refine lv_iconst (v := 0) hx hb dX8_forget_29 rfl ?_
      have hP : kP g (rW g b1 N1 l1 f1 ++ (cO g x (a 0) im te tr gu ab be tb tn tf ++ (gW g a y ps (b1 0) (b2 0) (b3 0) ++ (rW g b2 N2 l2 f2 ++ (rW g b3 N3 l3 f3 ++ []))))) _ := kP_perm ((pmA _ (pm_swap _ _ _)).trans (pm_swap _ _ _)) hP
      have hD : va_D _ (rW g b1 N1 l1 f1 ++ (cO g x (a 0) im te tr gu ab be tb tn tf ++ (gW g a y ps (b1 0) (b2 0) (b3 0) ++ (rW g b2 N2 l2 f2 ++ (rW g b3 N3 l3 f3 ++ []))))) := vD_perm ((pmA _ (pm_swap _ _ _)).trans (pm_swap _ _ _)) hD
      refine kput (B' := rW g b1 0 l1 f1) hC.1 hK hP hD hS 0 rfl rfl in_4 tyX4 tyX4_ok nmX4 0 (by decide) (gw_in m_169 rfl) rfl (ty := .int) (by decide +kernel) rfl rfl (Nat.le_of_ble_eq_true rfl) (fun _ h => h) rW_adr dX8_forget_30 (fun H locs hP hD hS => ?_)
      refine lv_iload_n hx hb dX8_forget_33 rfl (lv_at hl 0 rfl) ?_
      have hP : kP g (cO g x (a 0) im te tr gu ab be tb tn tf ++ (gW g a y ps (b1 0) (b2 0) (b3 0) ++ (rW g b1 0 l1 f1 ++ (rW g b2 N2 l2 f2 ++ (rW g b3 N3 l3 f3 ++ []))))) _ := kP_perm ((pm_swap _ _ _).trans (pmA _ (pm_swap _ _ _))) hP
      have hD : va_D _ (cO g x (a 0) im te tr gu ab be tb tn tf ++ (gW g a y ps (b1 0) (b2 0) (b3 0) ++ (rW g b1 0 l1 f1 ++ (rW g b2 N2 l2 f2 ++ (rW g b3 N3 l3 f3 ++ []))))) := vD_perm ((pm_swap _ _ _).trans (pmA _ (pm_swap _ _ _))) hD
      exact ret_rwi hx hb hr hlk (by rfl) (hP) hS dX8_forget_34
    · skip
      refine lv_aload_n hx hb dX8_forget_14 rfl (lv_at hl 0 rfl) ?_
      refine kget hC.1 hK (kP_app.mp hP).1 0 rfl rfl in_8 0 (by decide) (gw_in m_282 rfl) rfl dX8_forget_15 ?_
      refine lv_iload_n hx hb dX8_forget_18 rfl (lv_at hl 1 rfl) ?_
      refine ro_r (run_V (As := [.int (1)]) (rest := []) hC.1 ckX1_rowsOf (kX1_rowsOf_1 l g a y ps (b1 0) (b2 0) (b3 0)) (gw_in m_808 rfl) (fb_ro _ _ _) (va_recv hK.1 (kP_app.mp (kP_app.mp hP).2).1 (q0 := 0) rfl rfl) (fun U hU hW => ⟨by rw [hU]; exact (kP_app.mp (kP_app.mp hP).2).1, kK_warm hW hK⟩) ⟨rfl, rfl, Nat.le_of_ble_eq_true rfl, Nat.le_of_ble_eq_true rfl⟩ rfl hl.1 rfl (Nat.le_of_ble_eq_true rfl) dX8_forget_19 ⟨Nat.le_of_ble_eq_true rfl, Nat.le_of_ble_eq_true rfl⟩) ?_
      refine lv_astore_n (lv' := [(2, .ref (b2 0)), (0, .ref (x 0)), (1, .int (1))]) hx hb dX8_forget_22 rfl hl (by decide) rfl (fun ls hl => ?_)
      refine lv_aload_n hx hb dX8_forget_23 rfl (lv_at hl 0 rfl) ?_
      refine kget hC.1 hK (kP_app.mp (kP_app.mp (kP_app.mp (kP_app.mp hP).2).2).2).1 0 rfl rfl in_4 0 (by decide) (gw_in m_169 rfl) rfl dX8_forget_24 ?_
      refine lv_istore_n (lv' := [(3, .int (nI N2)), (2, .ref (b2 0)), (0, .ref (x 0)), (1, .int (1))]) hx hb dX8_forget_27 rfl hl (by decide) rfl (fun ls hl => ?_)
      refine lv_aload_n hx hb dX8_forget_28 rfl (lv_at hl 1 rfl) ?_
      refine lv_iconst (v := 0) hx hb dX8_forget_29 rfl ?_
      have hP : kP g (rW g b2 N2 l2 f2 ++ (cO g x (a 0) im te tr gu ab be tb tn tf ++ (gW g a y ps (b1 0) (b2 0) (b3 0) ++ (rW g b1 N1 l1 f1 ++ (rW g b3 N3 l3 f3 ++ []))))) _ := kP_perm (((pmA _ (pmA _ (pm_swap _ _ _))).trans (pmA _ (pm_swap _ _ _))).trans (pm_swap _ _ _)) hP
      have hD : va_D _ (rW g b2 N2 l2 f2 ++ (cO g x (a 0) im te tr gu ab be tb tn tf ++ (gW g a y ps (b1 0) (b2 0) (b3 0) ++ (rW g b1 N1 l1 f1 ++ (rW g b3 N3 l3 f3 ++ []))))) := vD_perm (((pmA _ (pmA _ (pm_swap _ _ _))).trans (pmA _ (pm_swap _ _ _))).trans (pm_swap _ _ _)) hD
      refine kput (B' := rW g b2 0 l2 f2) hC.1 hK hP hD hS 0 rfl rfl in_4 tyX4 tyX4_ok nmX4 0 (by decide) (gw_in m_169 rfl) rfl (ty := .int) (by decide +kernel) rfl rfl (Nat.le_of_ble_eq_true rfl) (fun _ h => h) rW_adr dX8_forget_30 (fun H locs hP hD hS => ?_)
      refine lv_iload_n hx hb dX8_forget_33 rfl (lv_at hl 0 rfl) ?_
      have hP : kP g (cO g x (a 0) im te tr gu ab be tb tn tf ++ (gW g a y ps (b1 0) (b2 0) (b3 0) ++ (rW g b1 N1 l1 f1 ++ (rW g b2 0 l2 f2 ++ (rW g b3 N3 l3 f3 ++ []))))) _ := kP_perm (((pm_swap _ _ _).trans (pmA _ (pm_swap _ _ _))).trans (pmA _ (pmA _ (pm_swap _ _ _)))) hP
      have hD : va_D _ (cO g x (a 0) im te tr gu ab be tb tn tf ++ (gW g a y ps (b1 0) (b2 0) (b3 0) ++ (rW g b1 N1 l1 f1 ++ (rW g b2 0 l2 f2 ++ (rW g b3 N3 l3 f3 ++ []))))) := vD_perm (((pm_swap _ _ _).trans (pmA _ (pm_swap _ _ _))).trans (pmA _ (pmA _ (pm_swap _ _ _)))) hD
      exact ret_rwi hx hb hr hlk (by rfl) (hP) hS dX8_forget_34
    · skip
      refine lv_aload_n hx hb dX8_forget_14 rfl (lv_at hl 0 rfl) ?_
      refine kget hC.1 hK (kP_app.mp hP).1 0 rfl rfl in_8 0 (by decide) (gw_in m_282 rfl) rfl dX8_forget_15 ?_
      refine lv_iload_n hx hb dX8_forget_18 rfl (lv_at hl 1 rfl) ?_
      refine ro_r (run_V (As := [.int (2)]) (rest := []) hC.1 ckX1_rowsOf (kX1_rowsOf_2 l g a y ps (b1 0) (b2 0) (b3 0)) (gw_in m_808 rfl) (fb_ro _ _ _) (va_recv hK.1 (kP_app.mp (kP_app.mp hP).2).1 (q0 := 0) rfl rfl) (fun U hU hW => ⟨by rw [hU]; exact (kP_app.mp (kP_app.mp hP).2).1, kK_warm hW hK⟩) ⟨rfl, rfl, Nat.le_of_ble_eq_true rfl, Nat.le_of_ble_eq_true rfl⟩ rfl hl.1 rfl (Nat.le_of_ble_eq_true rfl) dX8_forget_19 ⟨Nat.le_of_ble_eq_true rfl, Nat.le_of_ble_eq_true rfl⟩) ?_
      refine lv_astore_n (lv' := [(2, .ref (b3 0)), (0, .ref (x 0)), (1, .int (2))]) hx hb dX8_forget_22 rfl hl (by decide) rfl (fun ls hl => ?_)
      refine lv_aload_n hx hb dX8_forget_23 rfl (lv_at hl 0 rfl) ?_
      refine kget hC.1 hK (kP_app.mp (kP_app.mp (kP_app.mp (kP_app.mp (kP_app.mp hP).2).2).2).2).1 0 rfl rfl in_4 0 (by decide) (gw_in m_169 rfl) rfl dX8_forget_24 ?_
      refine lv_istore_n (lv' := [(3, .int (nI N3)), (2, .ref (b3 0)), (0, .ref (x 0)), (1, .int (2))]) hx hb dX8_forget_27 rfl hl (by decide) rfl (fun ls hl => ?_)
      refine lv_aload_n hx hb dX8_forget_28 rfl (lv_at hl 1 rfl) ?_
      refine lv_iconst (v := 0) hx hb dX8_forget_29 rfl ?_
      have hP : kP g (rW g b3 N3 l3 f3 ++ (cO g x (a 0) im te tr gu ab be tb tn tf ++ (gW g a y ps (b1 0) (b2 0) (b3 0) ++ (rW g b1 N1 l1 f1 ++ (rW g b2 N2 l2 f2 ++ []))))) _ := kP_perm ((((pmA _ (pmA _ (pmA _ (pm_swap _ _ _)))).trans (pmA _ (pmA _ (pm_swap _ _ _)))).trans (pmA _ (pm_swap _ _ _))).trans (pm_swap _ _ _)) hP
      have hD : va_D _ (rW g b3 N3 l3 f3 ++ (cO g x (a 0) im te tr gu ab be tb tn tf ++ (gW g a y ps (b1 0) (b2 0) (b3 0) ++ (rW g b1 N1 l1 f1 ++ (rW g b2 N2 l2 f2 ++ []))))) := vD_perm ((((pmA _ (pmA _ (pmA _ (pm_swap _ _ _)))).trans (pmA _ (pmA _ (pm_swap _ _ _)))).trans (pmA _ (pm_swap _ _ _))).trans (pm_swap _ _ _)) hD
      refine kput (B' := rW g b3 0 l3 f3) hC.1 hK hP hD hS 0 rfl rfl in_4 tyX4 tyX4_ok nmX4 0 (by decide) (gw_in m_169 rfl) rfl (ty := .int) (by decide +kernel) rfl rfl (Nat.le_of_ble_eq_true rfl) (fun _ h => h) rW_adr dX8_forget_30 (fun H locs hP hD hS => ?_)
      refine lv_iload_n hx hb dX8_forget_33 rfl (lv_at hl 0 rfl) ?_
      have hP : kP g (cO g x (a 0) im te tr gu ab be tb tn tf ++ (gW g a y ps (b1 0) (b2 0) (b3 0) ++ (rW g b1 N1 l1 f1 ++ (rW g b2 N2 l2 f2 ++ (rW g b3 0 l3 f3 ++ []))))) _ := kP_perm ((((pm_swap _ _ _).trans (pmA _ (pm_swap _ _ _))).trans (pmA _ (pmA _ (pm_swap _ _ _)))).trans (pmA _ (pmA _ (pmA _ (pm_swap _ _ _))))) hP
      have hD : va_D _ (cO g x (a 0) im te tr gu ab be tb tn tf ++ (gW g a y ps (b1 0) (b2 0) (b3 0) ++ (rW g b1 N1 l1 f1 ++ (rW g b2 N2 l2 f2 ++ (rW g b3 0 l3 f3 ++ []))))) := vD_perm ((((pm_swap _ _ _).trans (pmA _ (pm_swap _ _ _))).trans (pmA _ (pmA _ (pm_swap _ _ _)))).trans (pmA _ (pmA _ (pmA _ (pm_swap _ _ _))))) hD
      exact ret_rwi hx hb hr hlk (by rfl) (hP) hS dX8_forget_34
  · skip
    have c1 := b2i_0 c1
    refine lv_aload_n hx hb dX8_forget_9 rfl (lv_at hl 0 rfl) ?_
    refine rw_i (run_V (As := []) (rest := []) hC.1 ckX8_bad (kX8_bad l g x (a 0) im te tr gu ab be tb tn tf) (gw_in m_320 rfl) (fb_rw _ _ _) (va_recv hK.1 (kP_app.mp hP).1 (q0 := 0) rfl rfl) (fun U hU hW => ⟨by rw [hU]; exact (kP_app.mpr ⟨(kP_app.mp hP).1, kP_nil⟩), kK_warm hW hK, vD_sub (sbA _ (sb0 _)) hD⟩) ⟨rfl, rfl, Nat.le_of_ble_eq_true rfl, Nat.le_of_ble_eq_true rfl⟩ rfl hl.1 rfl (Nat.le_of_ble_eq_true rfl) dX8_forget_10 ⟨Nat.le_of_ble_eq_true rfl, Nat.le_of_ble_eq_true rfl⟩) (adr_app cO_adr rfl) (asc1 _ _) (ww' := cO g x (a 0) im te tr gu ab be (tb + 1) tn tf ++ (gW g a y ps (b1 0) (b2 0) (b3 0) ++ (rW g b1 N1 l1 f1 ++ (rW g b2 N2 l2 f2 ++ (rW g b3 N3 l3 f3 ++ []))))) (asc1 _ _) hP hD hS (fun H locs hP hD hS => ?_)
    exact ret_rwi hx hb hr hlk (by rw [if_neg (by rw [c1]; decide)]) (kP_eq (by simp only [c1, if_false, Bool.false_eq_true]) hP) hS dX8_forget_13
set_option maxHeartbeats 4000000 in
set_option maxRecDepth 100000 in
theorem kX8_hards (l : Launch) (g : gG) (x : Nat → Nat) (im te tr : Nat) (ab be : Int64) (tb tn tf : Int32) (u : Nat → Nat) (uf : Nat → Int32) (a ay ap b1 b2 b3 : Nat → Nat) (r : Nat → Int32) (N : Nat) (f : Nat → Int32) (N1 N2 N3 : Nat) (l1 l2 l3 : Int32) (f1 f2 f3 : Nat → Int32) (i : Int32) (hw : Wf r) (hN : N1 ≤ 6) (hf : ∀ n, n < N1 → bd (f1 (6 * n + 3)) 0 44) : Met l yX8_hards (.code yX8_hards cX8_hards 2 (some .int) :: gw) (rmN 7) (va_Pc [.ref (x 0), .int (i)] (rwPre g (cO g x (a 0) im te tr (u 0) ab be tb tn tf ++ (uW g u uf ++ (gW g a (ay 0) (ap 0) (b1 0) (b2 0) (b3 0) ++ (yW g ay r ++ (pW g ap N f ++ (rW g b1 N1 l1 f1 ++ (rW g b2 N2 l2 f2 ++ (rW g b3 N3 l3 f3 ++ [])))))))))) (rwQi g (cO g x (a 0) im te tr (u 0) ab be tb tn tf ++ (uW g u uf ++ (gW g a (ay 0) (ap 0) (b1 0) (b2 0) (b3 0) ++ (yW g ay r ++ (pW g ap N f ++ (rW g b1 N1 l1 f1 ++ (rW g b2 N2 l2 f2 ++ (rW g b3 N3 l3 f3 ++ [])))))))) (cO g x (a 0) im te tr (u 0) ab be (if yNut r i = true then tb else tb + 1) tn tf ++ (uW g u uf ++ (gW g a (ay 0) (ap 0) (b1 0) (b2 0) (b3 0) ++ (yW g ay r ++ (pW g ap N f ++ (rW g b1 N1 l1 f1 ++ (rW g b2 N2 l2 f2 ++ (rW g b3 N3 l3 f3 ++ [])))))))) (if yNut r i = true then setB (fun k => allF f1 i (fun n => fit0 r f1 (nI k) n) N1) 10 else -2)) 0 0 (dm (cO g x (a 0) im te tr (u 0) ab be tb tn tf ++ (uW g u uf ++ (gW g a (ay 0) (ap 0) (b1 0) (b2 0) (b3 0) ++ (yW g ay r ++ (pW g ap N f ++ (rW g b1 N1 l1 f1 ++ (rW g b2 N2 l2 f2 ++ (rW g b3 N3 l3 f3 ++ []))))))))) := by
  refine met_start (by decide) (Nat.le_of_ble_eq_true rfl) ?_
  intro pp ee ss mm bl mt cd hC hpre ls hl
  obtain ⟨⟨hx, hb, hml, hown, hts⟩, hr, hlk, hnm⟩ := id hC
  have hl : lv_has ls 2 [(0, .ref (x 0)), (1, .int (i))] := hl
  obtain ⟨hP, hK, hD⟩ := hpre
  have hS : va_S (dm (cO g x (a 0) im te tr (u 0) ab be tb tn tf ++ (uW g u uf ++ (gW g a (ay 0) (ap 0) (b1 0) (b2 0) (b3 0) ++ (yW g ay r ++ (pW g ap N f ++ (rW g b1 N1 l1 f1 ++ (rW g b2 N2 l2 f2 ++ (rW g b3 N3 l3 f3 ++ []))))))))) ss.heap ss.heap [] := va_S.rf
  have hD := vD_self hD
  refine lv_aload_n hx hb dX8_hards_0 rfl (lv_at hl 0 rfl) ?_
  refine kget hC.1 hK (kP_app.mp hP).1 0 rfl rfl in_8 0 (by decide) (gw_in m_282 rfl) rfl dX8_hards_1 ?_
  refine kget hC.1 hK (kP_app.mp (kP_app.mp (kP_app.mp hP).2).2).1 0 rfl rfl in_1 0 (by decide) (gw_in m_180 rfl) rfl dX8_hards_4 ?_
  refine lv_iload_n hx hb dX8_hards_7 rfl (lv_at hl 1 rfl) ?_
  refine ro_i (run_V (As := [.int (i)]) (rest := []) hC.1 ckX7_isNut (kX7_isNut l g ay r i) (gw_in m_573 rfl) (fb_ro _ _ _) (va_recv hK.1 (kP_app.mp (kP_app.mp (kP_app.mp (kP_app.mp hP).2).2).2).1 (q0 := 0) rfl rfl) (fun U hU hW => ⟨by rw [hU]; exact (kP_app.mp (kP_app.mp (kP_app.mp (kP_app.mp hP).2).2).2).1, kK_warm hW hK⟩) ⟨rfl, rfl, Nat.le_of_ble_eq_true rfl, Nat.le_of_ble_eq_true rfl⟩ rfl hl.1 rfl (Nat.le_of_ble_eq_true rfl) dX8_hards_8 ⟨Nat.le_of_ble_eq_true rfl, Nat.le_of_ble_eq_true rfl⟩) ?_
  refine lv_if_ne (tgt := 19) hx hb dX8_hards_11 (by decide) (fun c1 => ?_) (fun c1 => ?_)
  · skip
    have c1 := b2i_1 c1
    refine lv_aload_n hx hb dX8_hards_19 rfl (lv_at hl 0 rfl) ?_
    refine kget hC.1 hK (kP_app.mp hP).1 0 rfl rfl in_8 4 (by decide) (gw_in m_286 rfl) rfl dX8_hards_20 ?_
    refine lv_iconst (v := 0) hx hb dX8_hards_23 rfl ?_
    refine lv_aload_n hx hb dX8_hards_24 rfl (lv_at hl 0 rfl) ?_
    refine kget hC.1 hK (kP_app.mp hP).1 0 rfl rfl in_8 0 (by decide) (gw_in m_282 rfl) rfl dX8_hards_25 ?_
    refine lv_iload_n hx hb dX8_hards_28 rfl (lv_at hl 1 rfl) ?_
    refine ro_i (run_V (As := [.int (0), .ref (a 0), .int (i)]) (rest := []) hC.1 ckX2_thatFit (kX2_thatFit_0 l g u uf a ay ap b1 b2 b3 r N f N1 N2 N3 l1 l2 l3 f1 f2 f3 i hw hN hf) (gw_in m_754 rfl) (fb_ro _ _ _) (va_recv hK.1 (kP_app.mp (kP_app.mp hP).2).1 (q0 := 0) rfl rfl) (fun U hU hW => ⟨by rw [hU]; exact (kP_app.mpr ⟨(kP_app.mp (kP_app.mp hP).2).1, (kP_app.mpr ⟨(kP_app.mp (kP_app.mp (kP_app.mp hP).2).2).1, (kP_app.mpr ⟨(kP_app.mp (kP_app.mp (kP_app.mp (kP_app.mp hP).2).2).2).1, (kP_app.mpr ⟨(kP_app.mp (kP_app.mp (kP_app.mp (kP_app.mp (kP_app.mp hP).2).2).2).2).1, (kP_app.mpr ⟨(kP_app.mp (kP_app.mp (kP_app.mp (kP_app.mp (kP_app.mp (kP_app.mp hP).2).2).2).2).2).1, (kP_app.mpr ⟨(kP_app.mp (kP_app.mp (kP_app.mp (kP_app.mp (kP_app.mp (kP_app.mp (kP_app.mp hP).2).2).2).2).2).2).1, (kP_app.mpr ⟨(kP_app.mp (kP_app.mp (kP_app.mp (kP_app.mp (kP_app.mp (kP_app.mp (kP_app.mp (kP_app.mp hP).2).2).2).2).2).2).2).1, (kP_mem.mpr (fun _ h => absurd h List.not_mem_nil))⟩)⟩)⟩)⟩)⟩)⟩)⟩), kK_warm hW hK⟩) ⟨rfl, rfl, Nat.le_of_ble_eq_true rfl, Nat.le_of_ble_eq_true rfl⟩ rfl hl.1 rfl (Nat.le_of_ble_eq_true rfl) dX8_hards_29 ⟨Nat.le_of_ble_eq_true rfl, Nat.le_of_ble_eq_true rfl⟩) ?_
    exact ret_rwi hx hb hr hlk (by rw [if_pos c1]) (kP_eq (by rw [if_pos c1]) hP) hS dX8_hards_32
  · skip
    have c1 := b2i_0 c1
    refine lv_aload_n hx hb dX8_hards_14 rfl (lv_at hl 0 rfl) ?_
    refine rw_i (run_V (As := []) (rest := []) hC.1 ckX8_bad (kX8_bad l g x (a 0) im te tr (u 0) ab be tb tn tf) (gw_in m_320 rfl) (fb_rw _ _ _) (va_recv hK.1 (kP_app.mp hP).1 (q0 := 0) rfl rfl) (fun U hU hW => ⟨by rw [hU]; exact (kP_app.mpr ⟨(kP_app.mp hP).1, kP_nil⟩), kK_warm hW hK, vD_sub (sbA _ (sb0 _)) hD⟩) ⟨rfl, rfl, Nat.le_of_ble_eq_true rfl, Nat.le_of_ble_eq_true rfl⟩ rfl hl.1 rfl (Nat.le_of_ble_eq_true rfl) dX8_hards_15 ⟨Nat.le_of_ble_eq_true rfl, Nat.le_of_ble_eq_true rfl⟩) (adr_app cO_adr rfl) (asc1 _ _) (ww' := cO g x (a 0) im te tr (u 0) ab be (tb + 1) tn tf ++ (uW g u uf ++ (gW g a (ay 0) (ap 0) (b1 0) (b2 0) (b3 0) ++ (yW g ay r ++ (pW g ap N f ++ (rW g b1 N1 l1 f1 ++ (rW g b2 N2 l2 f2 ++ (rW g b3 N3 l3 f3 ++ [])))))))) (asc1 _ _) hP hD hS (fun H locs hP hD hS => ?_)
    exact ret_rwi hx hb hr hlk (by rw [if_neg (by rw [c1]; decide)]) (kP_eq (by rw [if_neg (by rw [c1]; decide)]) hP) hS dX8_hards_18
set_option maxHeartbeats 4000000 in
set_option maxRecDepth 100000 in
theorem kX8_is (l : Launch) (g : gG) (x : Nat → Nat) (im te tr : Nat) (ab be : Int64) (tb tn tf : Int32) (u : Nat → Nat) (uf : Nat → Int32) (a ay ap b1 b2 b3 : Nat → Nat) (r : Nat → Int32) (N : Nat) (f : Nat → Int32) (N1 N2 N3 : Nat) (l1 l2 l3 : Int32) (f1 f2 f3 : Nat → Int32) (i : Int32) (hw : Wf r) (hN : N2 ≤ 6) (hf : ∀ n, n < N2 → bd (f2 (6 * n + 1)) 0 9 ∧ bd (f2 (6 * n + 4)) 0 44) : Met l yX8_is (.code yX8_is cX8_is 2 (some .int) :: gw) (rmN 7) (va_Pc [.ref (x 0), .int (i)] (rwPre g (cO g x (a 0) im te tr (u 0) ab be tb tn tf ++ (uW g u uf ++ (gW g a (ay 0) (ap 0) (b1 0) (b2 0) (b3 0) ++ (yW g ay r ++ (pW g ap N f ++ (rW g b1 N1 l1 f1 ++ (rW g b2 N2 l2 f2 ++ (rW g b3 N3 l3 f3 ++ [])))))))))) (rwQi g (cO g x (a 0) im te tr (u 0) ab be tb tn tf ++ (uW g u uf ++ (gW g a (ay 0) (ap 0) (b1 0) (b2 0) (b3 0) ++ (yW g ay r ++ (pW g ap N f ++ (rW g b1 N1 l1 f1 ++ (rW g b2 N2 l2 f2 ++ (rW g b3 N3 l3 f3 ++ [])))))))) (cO g x (a 0) im te tr (u 0) ab be (if yNut r i = true then tb else tb + 1) tn tf ++ (uW g u uf ++ (gW g a (ay 0) (ap 0) (b1 0) (b2 0) (b3 0) ++ (yW g ay r ++ (pW g ap N f ++ (rW g b1 N1 l1 f1 ++ (rW g b2 N2 l2 f2 ++ (rW g b3 N3 l3 f3 ++ [])))))))) (if yNut r i = true then setB (fun k => allF f2 i (fun n => fit1 f2 (nI k) n) N2) 6 else -2)) 0 0 (dm (cO g x (a 0) im te tr (u 0) ab be tb tn tf ++ (uW g u uf ++ (gW g a (ay 0) (ap 0) (b1 0) (b2 0) (b3 0) ++ (yW g ay r ++ (pW g ap N f ++ (rW g b1 N1 l1 f1 ++ (rW g b2 N2 l2 f2 ++ (rW g b3 N3 l3 f3 ++ []))))))))) := by
  refine met_start (by decide) (Nat.le_of_ble_eq_true rfl) ?_
  intro pp ee ss mm bl mt cd hC hpre ls hl
  obtain ⟨⟨hx, hb, hml, hown, hts⟩, hr, hlk, hnm⟩ := id hC
  have hl : lv_has ls 2 [(0, .ref (x 0)), (1, .int (i))] := hl
  obtain ⟨hP, hK, hD⟩ := hpre
  have hS : va_S (dm (cO g x (a 0) im te tr (u 0) ab be tb tn tf ++ (uW g u uf ++ (gW g a (ay 0) (ap 0) (b1 0) (b2 0) (b3 0) ++ (yW g ay r ++ (pW g ap N f ++ (rW g b1 N1 l1 f1 ++ (rW g b2 N2 l2 f2 ++ (rW g b3 N3 l3 f3 ++ []))))))))) ss.heap ss.heap [] := va_S.rf
  have hD := vD_self hD
  refine lv_aload_n hx hb dX8_is_0 rfl (lv_at hl 0 rfl) ?_
  refine kget hC.1 hK (kP_app.mp hP).1 0 rfl rfl in_8 0 (by decide) (gw_in m_282 rfl) rfl dX8_is_1 ?_
  refine kget hC.1 hK (kP_app.mp (kP_app.mp (kP_app.mp hP).2).2).1 0 rfl rfl in_1 0 (by decide) (gw_in m_180 rfl) rfl dX8_is_4 ?_
  refine lv_iload_n hx hb dX8_is_7 rfl (lv_at hl 1 rfl) ?_
  refine ro_i (run_V (As := [.int (i)]) (rest := []) hC.1 ckX7_isNut (kX7_isNut l g ay r i) (gw_in m_573 rfl) (fb_ro _ _ _) (va_recv hK.1 (kP_app.mp (kP_app.mp (kP_app.mp (kP_app.mp hP).2).2).2).1 (q0 := 0) rfl rfl) (fun U hU hW => ⟨by rw [hU]; exact (kP_app.mp (kP_app.mp (kP_app.mp (kP_app.mp hP).2).2).2).1, kK_warm hW hK⟩) ⟨rfl, rfl, Nat.le_of_ble_eq_true rfl, Nat.le_of_ble_eq_true rfl⟩ rfl hl.1 rfl (Nat.le_of_ble_eq_true rfl) dX8_is_8 ⟨Nat.le_of_ble_eq_true rfl, Nat.le_of_ble_eq_true rfl⟩) ?_
  refine lv_if_ne (tgt := 19) hx hb dX8_is_11 (by decide) (fun c1 => ?_) (fun c1 => ?_)
  · skip
    have c1 := b2i_1 c1
    refine lv_aload_n hx hb dX8_is_19 rfl (lv_at hl 0 rfl) ?_
    refine kget hC.1 hK (kP_app.mp hP).1 0 rfl rfl in_8 4 (by decide) (gw_in m_286 rfl) rfl dX8_is_20 ?_
    refine lv_iconst (v := 1) hx hb dX8_is_23 rfl ?_
    refine lv_aload_n hx hb dX8_is_24 rfl (lv_at hl 0 rfl) ?_
    refine kget hC.1 hK (kP_app.mp hP).1 0 rfl rfl in_8 0 (by decide) (gw_in m_282 rfl) rfl dX8_is_25 ?_
    refine lv_iload_n hx hb dX8_is_28 rfl (lv_at hl 1 rfl) ?_
    refine ro_i (run_V (As := [.int (1), .ref (a 0), .int (i)]) (rest := []) hC.1 ckX2_thatFit (kX2_thatFit_1 l g u uf a ay ap b1 b2 b3 r N f N1 N2 N3 l1 l2 l3 f1 f2 f3 i hw hN hf) (gw_in m_754 rfl) (fb_ro _ _ _) (va_recv hK.1 (kP_app.mp (kP_app.mp hP).2).1 (q0 := 0) rfl rfl) (fun U hU hW => ⟨by rw [hU]; exact (kP_app.mpr ⟨(kP_app.mp (kP_app.mp hP).2).1, (kP_app.mpr ⟨(kP_app.mp (kP_app.mp (kP_app.mp hP).2).2).1, (kP_app.mpr ⟨(kP_app.mp (kP_app.mp (kP_app.mp (kP_app.mp hP).2).2).2).1, (kP_app.mpr ⟨(kP_app.mp (kP_app.mp (kP_app.mp (kP_app.mp (kP_app.mp hP).2).2).2).2).1, (kP_app.mpr ⟨(kP_app.mp (kP_app.mp (kP_app.mp (kP_app.mp (kP_app.mp (kP_app.mp hP).2).2).2).2).2).1, (kP_app.mpr ⟨(kP_app.mp (kP_app.mp (kP_app.mp (kP_app.mp (kP_app.mp (kP_app.mp (kP_app.mp hP).2).2).2).2).2).2).1, (kP_app.mpr ⟨(kP_app.mp (kP_app.mp (kP_app.mp (kP_app.mp (kP_app.mp (kP_app.mp (kP_app.mp (kP_app.mp hP).2).2).2).2).2).2).2).1, (kP_mem.mpr (fun _ h => absurd h List.not_mem_nil))⟩)⟩)⟩)⟩)⟩)⟩)⟩), kK_warm hW hK⟩) ⟨rfl, rfl, Nat.le_of_ble_eq_true rfl, Nat.le_of_ble_eq_true rfl⟩ rfl hl.1 rfl (Nat.le_of_ble_eq_true rfl) dX8_is_29 ⟨Nat.le_of_ble_eq_true rfl, Nat.le_of_ble_eq_true rfl⟩) ?_
    exact ret_rwi hx hb hr hlk (by rw [if_pos c1]) (kP_eq (by rw [if_pos c1]) hP) hS dX8_is_32
  · skip
    have c1 := b2i_0 c1
    refine lv_aload_n hx hb dX8_is_14 rfl (lv_at hl 0 rfl) ?_
    refine rw_i (run_V (As := []) (rest := []) hC.1 ckX8_bad (kX8_bad l g x (a 0) im te tr (u 0) ab be tb tn tf) (gw_in m_320 rfl) (fb_rw _ _ _) (va_recv hK.1 (kP_app.mp hP).1 (q0 := 0) rfl rfl) (fun U hU hW => ⟨by rw [hU]; exact (kP_app.mpr ⟨(kP_app.mp hP).1, kP_nil⟩), kK_warm hW hK, vD_sub (sbA _ (sb0 _)) hD⟩) ⟨rfl, rfl, Nat.le_of_ble_eq_true rfl, Nat.le_of_ble_eq_true rfl⟩ rfl hl.1 rfl (Nat.le_of_ble_eq_true rfl) dX8_is_15 ⟨Nat.le_of_ble_eq_true rfl, Nat.le_of_ble_eq_true rfl⟩) (adr_app cO_adr rfl) (asc1 _ _) (ww' := cO g x (a 0) im te tr (u 0) ab be (tb + 1) tn tf ++ (uW g u uf ++ (gW g a (ay 0) (ap 0) (b1 0) (b2 0) (b3 0) ++ (yW g ay r ++ (pW g ap N f ++ (rW g b1 N1 l1 f1 ++ (rW g b2 N2 l2 f2 ++ (rW g b3 N3 l3 f3 ++ [])))))))) (asc1 _ _) hP hD hS (fun H locs hP hD hS => ?_)
    exact ret_rwi hx hb hr hlk (by rw [if_neg (by rw [c1]; decide)]) (kP_eq (by rw [if_neg (by rw [c1]; decide)]) hP) hS dX8_is_18
set_option maxHeartbeats 4000000 in
set_option maxRecDepth 100000 in
theorem kX8_kinds (l : Launch) (g : gG) (x : Nat → Nat) (im te tr : Nat) (ab be : Int64) (tb tn tf : Int32) (u : Nat → Nat) (uf : Nat → Int32) (a ay ap b1 b2 b3 : Nat → Nat) (r : Nat → Int32) (N : Nat) (f : Nat → Int32) (N1 N2 N3 : Nat) (l1 l2 l3 : Int32) (f1 f2 f3 : Nat → Int32) (i : Int32) (hw : Wf r) (hN : N3 ≤ 6) : Met l yX8_kinds (.code yX8_kinds cX8_kinds 2 (some .int) :: gw) (rmN 7) (va_Pc [.ref (x 0), .int (i)] (rwPre g (cO g x (a 0) im te tr (u 0) ab be tb tn tf ++ (uW g u uf ++ (gW g a (ay 0) (ap 0) (b1 0) (b2 0) (b3 0) ++ (yW g ay r ++ (pW g ap N f ++ (rW g b1 N1 l1 f1 ++ (rW g b2 N2 l2 f2 ++ (rW g b3 N3 l3 f3 ++ [])))))))))) (rwQi g (cO g x (a 0) im te tr (u 0) ab be tb tn tf ++ (uW g u uf ++ (gW g a (ay 0) (ap 0) (b1 0) (b2 0) (b3 0) ++ (yW g ay r ++ (pW g ap N f ++ (rW g b1 N1 l1 f1 ++ (rW g b2 N2 l2 f2 ++ (rW g b3 N3 l3 f3 ++ [])))))))) (cO g x (a 0) im te tr (u 0) ab be (if yPl r i = true then tb else tb + 1) tn tf ++ (uW g u uf ++ (gW g a (ay 0) (ap 0) (b1 0) (b2 0) (b3 0) ++ (yW g ay r ++ (pW g ap N f ++ (rW g b1 N1 l1 f1 ++ (rW g b2 N2 l2 f2 ++ (rW g b3 N3 l3 f3 ++ [])))))))) (if yPl r i = true then setB (fun k => allF f3 i (fun n => fit2 f3 (nI k) n) N3) 6 else -2)) 0 0 (dm (cO g x (a 0) im te tr (u 0) ab be tb tn tf ++ (uW g u uf ++ (gW g a (ay 0) (ap 0) (b1 0) (b2 0) (b3 0) ++ (yW g ay r ++ (pW g ap N f ++ (rW g b1 N1 l1 f1 ++ (rW g b2 N2 l2 f2 ++ (rW g b3 N3 l3 f3 ++ []))))))))) := by
  refine met_start (by decide) (Nat.le_of_ble_eq_true rfl) ?_
  intro pp ee ss mm bl mt cd hC hpre ls hl
  obtain ⟨⟨hx, hb, hml, hown, hts⟩, hr, hlk, hnm⟩ := id hC
  have hl : lv_has ls 2 [(0, .ref (x 0)), (1, .int (i))] := hl
  obtain ⟨hP, hK, hD⟩ := hpre
  have hS : va_S (dm (cO g x (a 0) im te tr (u 0) ab be tb tn tf ++ (uW g u uf ++ (gW g a (ay 0) (ap 0) (b1 0) (b2 0) (b3 0) ++ (yW g ay r ++ (pW g ap N f ++ (rW g b1 N1 l1 f1 ++ (rW g b2 N2 l2 f2 ++ (rW g b3 N3 l3 f3 ++ []))))))))) ss.heap ss.heap [] := va_S.rf
  have hD := vD_self hD
  refine lv_aload_n hx hb dX8_kinds_0 rfl (lv_at hl 0 rfl) ?_
  refine kget hC.1 hK (kP_app.mp hP).1 0 rfl rfl in_8 0 (by decide) (gw_in m_282 rfl) rfl dX8_kinds_1 ?_
  refine kget hC.1 hK (kP_app.mp (kP_app.mp (kP_app.mp hP).2).2).1 0 rfl rfl in_1 0 (by decide) (gw_in m_180 rfl) rfl dX8_kinds_4 ?_
  refine lv_iload_n hx hb dX8_kinds_7 rfl (lv_at hl 1 rfl) ?_
  refine ro_i (run_V (As := [.int (i)]) (rest := []) hC.1 ckX7_isPlayer (kX7_isPlayer l g ay r i) (gw_in m_356 rfl) (fb_ro _ _ _) (va_recv hK.1 (kP_app.mp (kP_app.mp (kP_app.mp (kP_app.mp hP).2).2).2).1 (q0 := 0) rfl rfl) (fun U hU hW => ⟨by rw [hU]; exact (kP_app.mp (kP_app.mp (kP_app.mp (kP_app.mp hP).2).2).2).1, kK_warm hW hK⟩) ⟨rfl, rfl, Nat.le_of_ble_eq_true rfl, Nat.le_of_ble_eq_true rfl⟩ rfl hl.1 rfl (Nat.le_of_ble_eq_true rfl) dX8_kinds_8 ⟨Nat.le_of_ble_eq_true rfl, Nat.le_of_ble_eq_true rfl⟩) ?_
  refine lv_if_ne (tgt := 19) hx hb dX8_kinds_11 (by decide) (fun c1 => ?_) (fun c1 => ?_)
  · skip
    have c1 := b2i_1 c1
    refine lv_aload_n hx hb dX8_kinds_19 rfl (lv_at hl 0 rfl) ?_
    refine kget hC.1 hK (kP_app.mp hP).1 0 rfl rfl in_8 4 (by decide) (gw_in m_286 rfl) rfl dX8_kinds_20 ?_
    refine lv_iconst (v := 2) hx hb dX8_kinds_23 rfl ?_
    refine lv_aload_n hx hb dX8_kinds_24 rfl (lv_at hl 0 rfl) ?_
    refine kget hC.1 hK (kP_app.mp hP).1 0 rfl rfl in_8 0 (by decide) (gw_in m_282 rfl) rfl dX8_kinds_25 ?_
    refine lv_iload_n hx hb dX8_kinds_28 rfl (lv_at hl 1 rfl) ?_
    refine ro_i (run_V (As := [.int (2), .ref (a 0), .int (i)]) (rest := []) hC.1 ckX2_thatFit (kX2_thatFit_2 l g u uf a ay ap b1 b2 b3 r N f N1 N2 N3 l1 l2 l3 f1 f2 f3 i hw hN) (gw_in m_754 rfl) (fb_ro _ _ _) (va_recv hK.1 (kP_app.mp (kP_app.mp hP).2).1 (q0 := 0) rfl rfl) (fun U hU hW => ⟨by rw [hU]; exact (kP_app.mpr ⟨(kP_app.mp (kP_app.mp hP).2).1, (kP_app.mpr ⟨(kP_app.mp (kP_app.mp (kP_app.mp hP).2).2).1, (kP_app.mpr ⟨(kP_app.mp (kP_app.mp (kP_app.mp (kP_app.mp hP).2).2).2).1, (kP_app.mpr ⟨(kP_app.mp (kP_app.mp (kP_app.mp (kP_app.mp (kP_app.mp hP).2).2).2).2).1, (kP_app.mpr ⟨(kP_app.mp (kP_app.mp (kP_app.mp (kP_app.mp (kP_app.mp (kP_app.mp hP).2).2).2).2).2).1, (kP_app.mpr ⟨(kP_app.mp (kP_app.mp (kP_app.mp (kP_app.mp (kP_app.mp (kP_app.mp (kP_app.mp hP).2).2).2).2).2).2).1, (kP_app.mpr ⟨(kP_app.mp (kP_app.mp (kP_app.mp (kP_app.mp (kP_app.mp (kP_app.mp (kP_app.mp (kP_app.mp hP).2).2).2).2).2).2).2).1, (kP_mem.mpr (fun _ h => absurd h List.not_mem_nil))⟩)⟩)⟩)⟩)⟩)⟩)⟩), kK_warm hW hK⟩) ⟨rfl, rfl, Nat.le_of_ble_eq_true rfl, Nat.le_of_ble_eq_true rfl⟩ rfl hl.1 rfl (Nat.le_of_ble_eq_true rfl) dX8_kinds_29 ⟨Nat.le_of_ble_eq_true rfl, Nat.le_of_ble_eq_true rfl⟩) ?_
    exact ret_rwi hx hb hr hlk (by rw [if_pos c1]) (kP_eq (by rw [if_pos c1]) hP) hS dX8_kinds_32
  · skip
    have c1 := b2i_0 c1
    refine lv_aload_n hx hb dX8_kinds_14 rfl (lv_at hl 0 rfl) ?_
    refine rw_i (run_V (As := []) (rest := []) hC.1 ckX8_bad (kX8_bad l g x (a 0) im te tr (u 0) ab be tb tn tf) (gw_in m_320 rfl) (fb_rw _ _ _) (va_recv hK.1 (kP_app.mp hP).1 (q0 := 0) rfl rfl) (fun U hU hW => ⟨by rw [hU]; exact (kP_app.mpr ⟨(kP_app.mp hP).1, kP_nil⟩), kK_warm hW hK, vD_sub (sbA _ (sb0 _)) hD⟩) ⟨rfl, rfl, Nat.le_of_ble_eq_true rfl, Nat.le_of_ble_eq_true rfl⟩ rfl hl.1 rfl (Nat.le_of_ble_eq_true rfl) dX8_kinds_15 ⟨Nat.le_of_ble_eq_true rfl, Nat.le_of_ble_eq_true rfl⟩) (adr_app cO_adr rfl) (asc1 _ _) (ww' := cO g x (a 0) im te tr (u 0) ab be (tb + 1) tn tf ++ (uW g u uf ++ (gW g a (ay 0) (ap 0) (b1 0) (b2 0) (b3 0) ++ (yW g ay r ++ (pW g ap N f ++ (rW g b1 N1 l1 f1 ++ (rW g b2 N2 l2 f2 ++ (rW g b3 N3 l3 f3 ++ [])))))))) (asc1 _ _) hP hD hS (fun H locs hP hD hS => ?_)
    exact ret_rwi hx hb hr hlk (by rw [if_neg (by rw [c1]; decide)]) (kP_eq (by rw [if_neg (by rw [c1]; decide)]) hP) hS dX8_kinds_18
set_option maxHeartbeats 4000000 in
set_option maxRecDepth 100000 in
theorem kX8_tell (l : Launch) (g : gG) (x : Nat → Nat) (im te tr : Nat) (ab be : Int64) (tb tn tf : Int32) (u : Nat → Nat) (uf : Nat → Int32) (a ay ap b1 b2 b3 : Nat → Nat) (r : Nat → Int32) (N : Nat) (f : Nat → Int32) (N1 N2 N3 : Nat) (l1 l2 l3 : Int32) (f1 f2 f3 : Nat → Int32) (i : Int32) (hw : Wf r) (hN : N1 ≤ 6) (hf : ∀ n, n < N1 → bd (f1 (6 * n + 3)) 0 44) : Met l yX8_tell (.code yX8_tell cX8_tell 2 (some .int) :: gw) (rmN 8) (va_Pc [.ref (x 0), .int (i)] (rwPre g (cO g x (a 0) im te tr (u 0) ab be tb tn tf ++ (uW g u uf ++ (gW g a (ay 0) (ap 0) (b1 0) (b2 0) (b3 0) ++ (yW g ay r ++ (pW g ap N f ++ (rW g b1 N1 l1 f1 ++ (rW g b2 N2 l2 f2 ++ (rW g b3 N3 l3 f3 ++ [])))))))))) (rxQi g (cO g x (a 0) im te tr (u 0) ab be tb tn tf ++ (uW g u uf ++ (gW g a (ay 0) (ap 0) (b1 0) (b2 0) (b3 0) ++ (yW g ay r ++ (pW g ap N f ++ (rW g b1 N1 l1 f1 ++ (rW g b2 N2 l2 f2 ++ (rW g b3 N3 l3 f3 ++ [])))))))) (fun u9 : (Nat → Int32) => cO g x (a 0) im te tr (u 0) ab be (if yNut r i = true then tb else tb + 1) tn tf ++ (uW g u u9 ++ (gW g a (ay 0) (ap 0) (b1 0) (b2 0) (b3 0) ++ (yW g ay r ++ (pW g ap N f ++ (rW g b1 N1 l1 f1 ++ (rW g b2 N2 l2 f2 ++ (rW g b3 N3 l3 f3 ++ [])))))))) (if yNut r i = true then (if setB (fun k => allF f1 i (fun n => fit0 r f1 (nI k) n) N1) 10 = 0 then -1 else (bsF (fun L => moF (fun k => crk (yFact r i 1) (nI k) (nI (L % 10)) (nI (L / 10)) (yNext r)) (setB (fun k => allF f1 i (fun n => fit0 r f1 (nI k) n) N1) 10) 10) (fun _ => false) 210).1) else -2)) 0 0 (dm (cO g x (a 0) im te tr (u 0) ab be tb tn tf ++ (uW g u uf ++ (gW g a (ay 0) (ap 0) (b1 0) (b2 0) (b3 0) ++ (yW g ay r ++ (pW g ap N f ++ (rW g b1 N1 l1 f1 ++ (rW g b2 N2 l2 f2 ++ (rW g b3 N3 l3 f3 ++ []))))))))) := by
  refine met_start (by decide) (Nat.le_of_ble_eq_true rfl) ?_
  intro pp ee ss mm bl mt cd hC hpre ls hl
  obtain ⟨⟨hx, hb, hml, hown, hts⟩, hr, hlk, hnm⟩ := id hC
  have hl : lv_has ls 2 [(0, .ref (x 0)), (1, .int (i))] := hl
  obtain ⟨hP, hK, hD⟩ := hpre
  have hS : va_S (dm (cO g x (a 0) im te tr (u 0) ab be tb tn tf ++ (uW g u uf ++ (gW g a (ay 0) (ap 0) (b1 0) (b2 0) (b3 0) ++ (yW g ay r ++ (pW g ap N f ++ (rW g b1 N1 l1 f1 ++ (rW g b2 N2 l2 f2 ++ (rW g b3 N3 l3 f3 ++ []))))))))) ss.heap ss.heap [] := va_S.rf
  have hD := vD_self hD
  refine lv_aload_n hx hb dX8_tell_0 rfl (lv_at hl 0 rfl) ?_
  refine kget hC.1 hK (kP_app.mp hP).1 0 rfl rfl in_8 0 (by decide) (gw_in m_282 rfl) rfl dX8_tell_1 ?_
  refine kget hC.1 hK (kP_app.mp (kP_app.mp (kP_app.mp hP).2).2).1 0 rfl rfl in_1 0 (by decide) (gw_in m_180 rfl) rfl dX8_tell_4 ?_
  refine lv_iload_n hx hb dX8_tell_7 rfl (lv_at hl 1 rfl) ?_
  refine ro_i (run_V (As := [.int (i)]) (rest := []) hC.1 ckX7_isNut (kX7_isNut l g ay r i) (gw_in m_573 rfl) (fb_ro _ _ _) (va_recv hK.1 (kP_app.mp (kP_app.mp (kP_app.mp (kP_app.mp hP).2).2).2).1 (q0 := 0) rfl rfl) (fun U hU hW => ⟨by rw [hU]; exact (kP_app.mp (kP_app.mp (kP_app.mp (kP_app.mp hP).2).2).2).1, kK_warm hW hK⟩) ⟨rfl, rfl, Nat.le_of_ble_eq_true rfl, Nat.le_of_ble_eq_true rfl⟩ rfl hl.1 rfl (Nat.le_of_ble_eq_true rfl) dX8_tell_8 ⟨Nat.le_of_ble_eq_true rfl, Nat.le_of_ble_eq_true rfl⟩) ?_
  refine lv_if_ne (tgt := 19) hx hb dX8_tell_11 (by decide) (fun c1 => ?_) (fun c1 => ?_)
  · skip
    have c1 := b2i_1 c1
    refine lv_aload_n hx hb dX8_tell_19 rfl (lv_at hl 0 rfl) ?_
    refine kget hC.1 hK (kP_app.mp hP).1 0 rfl rfl in_8 4 (by decide) (gw_in m_286 rfl) rfl dX8_tell_20 ?_
    refine lv_iconst (v := 0) hx hb dX8_tell_23 rfl ?_
    refine lv_aload_n hx hb dX8_tell_24 rfl (lv_at hl 0 rfl) ?_
    refine kget hC.1 hK (kP_app.mp hP).1 0 rfl rfl in_8 0 (by decide) (gw_in m_282 rfl) rfl dX8_tell_25 ?_
    refine lv_iload_n hx hb dX8_tell_28 rfl (lv_at hl 1 rfl) ?_
    have hP : kP g (uW g u uf ++ (gW g a (ay 0) (ap 0) (b1 0) (b2 0) (b3 0) ++ (yW g ay r ++ (pW g ap N f ++ (rW g b1 N1 l1 f1 ++ (rW g b2 N2 l2 f2 ++ (rW g b3 N3 l3 f3 ++ (cO g x (a 0) im te tr (u 0) ab be tb tn tf ++ [])))))))) _ := kP_perm (((((((pm_swap _ _ _).trans (pmA _ (pm_swap _ _ _))).trans (pmA _ (pmA _ (pm_swap _ _ _)))).trans (pmA _ (pmA _ (pmA _ (pm_swap _ _ _))))).trans (pmA _ (pmA _ (pmA _ (pmA _ (pm_swap _ _ _)))))).trans (pmA _ (pmA _ (pmA _ (pmA _ (pmA _ (pm_swap _ _ _))))))).trans (pmA _ (pmA _ (pmA _ (pmA _ (pmA _ (pmA _ (pm_swap _ _ _)))))))) hP
    have hD : va_D _ (uW g u uf ++ (gW g a (ay 0) (ap 0) (b1 0) (b2 0) (b3 0) ++ (yW g ay r ++ (pW g ap N f ++ (rW g b1 N1 l1 f1 ++ (rW g b2 N2 l2 f2 ++ (rW g b3 N3 l3 f3 ++ (cO g x (a 0) im te tr (u 0) ab be tb tn tf ++ [])))))))) := vD_perm (((((((pm_swap _ _ _).trans (pmA _ (pm_swap _ _ _))).trans (pmA _ (pmA _ (pm_swap _ _ _)))).trans (pmA _ (pmA _ (pmA _ (pm_swap _ _ _))))).trans (pmA _ (pmA _ (pmA _ (pmA _ (pm_swap _ _ _)))))).trans (pmA _ (pmA _ (pmA _ (pmA _ (pmA _ (pm_swap _ _ _))))))).trans (pmA _ (pmA _ (pmA _ (pmA _ (pmA _ (pmA _ (pm_swap _ _ _)))))))) hD
    refine rx_i (run_V (rm := rmN 7) (As := [.int (0), .ref (a 0), .int (i)]) (rest := []) hC.1 ckX2_best (kX2_best_0 l g u uf a ay ap b1 b2 b3 r N f N1 N2 N3 l1 l2 l3 f1 f2 f3 i hw hN hf) (gw_in m_780 rfl) (fb_rw _ _ _) (va_recv hK.1 (kP_app.mp hP).1 (q0 := 0) rfl rfl) (fun U hU hW => ⟨by rw [hU]; exact (kP_app.mpr ⟨(kP_app.mp hP).1, (kP_app.mpr ⟨(kP_app.mp (kP_app.mp hP).2).1, (kP_app.mpr ⟨(kP_app.mp (kP_app.mp (kP_app.mp hP).2).2).1, (kP_app.mpr ⟨(kP_app.mp (kP_app.mp (kP_app.mp (kP_app.mp hP).2).2).2).1, (kP_app.mpr ⟨(kP_app.mp (kP_app.mp (kP_app.mp (kP_app.mp (kP_app.mp hP).2).2).2).2).1, (kP_app.mpr ⟨(kP_app.mp (kP_app.mp (kP_app.mp (kP_app.mp (kP_app.mp (kP_app.mp hP).2).2).2).2).2).1, (kP_app.mpr ⟨(kP_app.mp (kP_app.mp (kP_app.mp (kP_app.mp (kP_app.mp (kP_app.mp (kP_app.mp hP).2).2).2).2).2).2).1, kP_nil⟩)⟩)⟩)⟩)⟩)⟩)⟩), kK_warm hW hK, vD_sub (sbA _ (sbA _ (sbA _ (sbA _ (sbA _ (sbA _ (sbA _ (sb0 _)))))))) hD⟩) ⟨rfl, rfl, Nat.le_of_ble_eq_true rfl, Nat.le_of_ble_eq_true rfl⟩ rfl hl.1 rfl (Nat.le_of_ble_eq_true rfl) dX8_tell_29 ⟨Nat.le_of_ble_eq_true rfl, Nat.le_of_ble_eq_true rfl⟩) (fun u => (adr_app uW_adr (adr_app rfl (adr_app rfl (adr_app rfl (adr_app rfl (adr_app rfl (adr_app rfl rfl)))))))) (asc7 _ _ _ _ _ _ _ _) (ww' := fun u9 : (Nat → Int32) => uW g u u9 ++ (gW g a (ay 0) (ap 0) (b1 0) (b2 0) (b3 0) ++ (yW g ay r ++ (pW g ap N f ++ (rW g b1 N1 l1 f1 ++ (rW g b2 N2 l2 f2 ++ (rW g b3 N3 l3 f3 ++ (cO g x (a 0) im te tr (u 0) ab be tb tn tf ++ [])))))))) (fun u => asc7 _ _ _ _ _ _ _ _) hP hD hS (fun u H locs hP hD hS => ?_)
    obtain ⟨x2, rfl⟩ : ∃ z, z = u := ⟨_, rfl⟩
    have hP : kP g (uW g u x2 ++ (gW g a (ay 0) (ap 0) (b1 0) (b2 0) (b3 0) ++ (yW g ay r ++ (pW g ap N f ++ (rW g b1 N1 l1 f1 ++ (rW g b2 N2 l2 f2 ++ (rW g b3 N3 l3 f3 ++ (cO g x (a 0) im te tr (u 0) ab be tb tn tf ++ [])))))))) H := hP
    have hD : va_D _ (uW g u x2 ++ (gW g a (ay 0) (ap 0) (b1 0) (b2 0) (b3 0) ++ (yW g ay r ++ (pW g ap N f ++ (rW g b1 N1 l1 f1 ++ (rW g b2 N2 l2 f2 ++ (rW g b3 N3 l3 f3 ++ (cO g x (a 0) im te tr (u 0) ab be tb tn tf ++ [])))))))) := hD
    have hP : kP g (cO g x (a 0) im te tr (u 0) ab be tb tn tf ++ (uW g u x2 ++ (gW g a (ay 0) (ap 0) (b1 0) (b2 0) (b3 0) ++ (yW g ay r ++ (pW g ap N f ++ (rW g b1 N1 l1 f1 ++ (rW g b2 N2 l2 f2 ++ (rW g b3 N3 l3 f3 ++ [])))))))) _ := kP_perm (((((((pmA _ (pmA _ (pmA _ (pmA _ (pmA _ (pmA _ (pm_swap _ _ _))))))).trans (pmA _ (pmA _ (pmA _ (pmA _ (pmA _ (pm_swap _ _ _))))))).trans (pmA _ (pmA _ (pmA _ (pmA _ (pm_swap _ _ _)))))).trans (pmA _ (pmA _ (pmA _ (pm_swap _ _ _))))).trans (pmA _ (pmA _ (pm_swap _ _ _)))).trans (pmA _ (pm_swap _ _ _))).trans (pm_swap _ _ _)) hP
    have hD : va_D _ (cO g x (a 0) im te tr (u 0) ab be tb tn tf ++ (uW g u x2 ++ (gW g a (ay 0) (ap 0) (b1 0) (b2 0) (b3 0) ++ (yW g ay r ++ (pW g ap N f ++ (rW g b1 N1 l1 f1 ++ (rW g b2 N2 l2 f2 ++ (rW g b3 N3 l3 f3 ++ [])))))))) := vD_perm (((((((pmA _ (pmA _ (pmA _ (pmA _ (pmA _ (pmA _ (pm_swap _ _ _))))))).trans (pmA _ (pmA _ (pmA _ (pmA _ (pmA _ (pm_swap _ _ _))))))).trans (pmA _ (pmA _ (pmA _ (pmA _ (pm_swap _ _ _)))))).trans (pmA _ (pmA _ (pmA _ (pm_swap _ _ _))))).trans (pmA _ (pmA _ (pm_swap _ _ _)))).trans (pmA _ (pm_swap _ _ _))).trans (pm_swap _ _ _)) hD
    exact ret_rxi (S := (Nat → Int32)) x2 hx hb hr hlk (by rw [if_pos c1]) (kP_eq (by rw [if_pos c1]) hP) hS dX8_tell_32
  · skip
    have c1 := b2i_0 c1
    refine lv_aload_n hx hb dX8_tell_14 rfl (lv_at hl 0 rfl) ?_
    refine rw_i (run_V (As := []) (rest := []) hC.1 ckX8_bad (kX8_bad l g x (a 0) im te tr (u 0) ab be tb tn tf) (gw_in m_320 rfl) (fb_rw _ _ _) (va_recv hK.1 (kP_app.mp hP).1 (q0 := 0) rfl rfl) (fun U hU hW => ⟨by rw [hU]; exact (kP_app.mpr ⟨(kP_app.mp hP).1, kP_nil⟩), kK_warm hW hK, vD_sub (sbA _ (sb0 _)) hD⟩) ⟨rfl, rfl, Nat.le_of_ble_eq_true rfl, Nat.le_of_ble_eq_true rfl⟩ rfl hl.1 rfl (Nat.le_of_ble_eq_true rfl) dX8_tell_15 ⟨Nat.le_of_ble_eq_true rfl, Nat.le_of_ble_eq_true rfl⟩) (adr_app cO_adr rfl) (asc1 _ _) (ww' := cO g x (a 0) im te tr (u 0) ab be (tb + 1) tn tf ++ (uW g u uf ++ (gW g a (ay 0) (ap 0) (b1 0) (b2 0) (b3 0) ++ (yW g ay r ++ (pW g ap N f ++ (rW g b1 N1 l1 f1 ++ (rW g b2 N2 l2 f2 ++ (rW g b3 N3 l3 f3 ++ [])))))))) (asc1 _ _) hP hD hS (fun H locs hP hD hS => ?_)
    exact ret_rxi (S := (Nat → Int32)) uf hx hb hr hlk (by rw [if_neg (by rw [c1]; decide)]) (kP_eq (by rw [if_neg (by rw [c1]; decide)]) hP) hS dX8_tell_18
set_option maxHeartbeats 4000000 in
set_option maxRecDepth 100000 in
theorem kX8_look (l : Launch) (g : gG) (x : Nat → Nat) (im te tr : Nat) (ab be : Int64) (tb tn tf : Int32) (u : Nat → Nat) (uf : Nat → Int32) (a ay ap b1 b2 b3 : Nat → Nat) (r : Nat → Int32) (N : Nat) (f : Nat → Int32) (N1 N2 N3 : Nat) (l1 l2 l3 : Int32) (f1 f2 f3 : Nat → Int32) (i : Int32) (hw : Wf r) (hN : N2 ≤ 6) (hf : ∀ n, n < N2 → bd (f2 (6 * n + 1)) 0 9 ∧ bd (f2 (6 * n + 4)) 0 44) : Met l yX8_look (.code yX8_look cX8_look 2 (some .int) :: gw) (rmN 8) (va_Pc [.ref (x 0), .int (i)] (rwPre g (cO g x (a 0) im te tr (u 0) ab be tb tn tf ++ (uW g u uf ++ (gW g a (ay 0) (ap 0) (b1 0) (b2 0) (b3 0) ++ (yW g ay r ++ (pW g ap N f ++ (rW g b1 N1 l1 f1 ++ (rW g b2 N2 l2 f2 ++ (rW g b3 N3 l3 f3 ++ [])))))))))) (rxQi g (cO g x (a 0) im te tr (u 0) ab be tb tn tf ++ (uW g u uf ++ (gW g a (ay 0) (ap 0) (b1 0) (b2 0) (b3 0) ++ (yW g ay r ++ (pW g ap N f ++ (rW g b1 N1 l1 f1 ++ (rW g b2 N2 l2 f2 ++ (rW g b3 N3 l3 f3 ++ [])))))))) (fun u9 : (Nat → Int32) => cO g x (a 0) im te tr (u 0) ab be (if yNut r i = true then tb else tb + 1) tn tf ++ (uW g u u9 ++ (gW g a (ay 0) (ap 0) (b1 0) (b2 0) (b3 0) ++ (yW g ay r ++ (pW g ap N f ++ (rW g b1 N1 l1 f1 ++ (rW g b2 N2 l2 f2 ++ (rW g b3 N3 l3 f3 ++ [])))))))) (if yNut r i = true then (if setB (fun k => allF f2 i (fun n => fit1 f2 (nI k) n) N2) 6 = 0 then -1 else (bsF (fun L => moF (fun k => crk (nI k) (yFact r i 2) (nI (L % 10)) (nI (L / 10)) (yNext r)) (setB (fun k => allF f2 i (fun n => fit1 f2 (nI k) n) N2) 6) 10) (fun _ => false) 210).1) else -2)) 0 0 (dm (cO g x (a 0) im te tr (u 0) ab be tb tn tf ++ (uW g u uf ++ (gW g a (ay 0) (ap 0) (b1 0) (b2 0) (b3 0) ++ (yW g ay r ++ (pW g ap N f ++ (rW g b1 N1 l1 f1 ++ (rW g b2 N2 l2 f2 ++ (rW g b3 N3 l3 f3 ++ []))))))))) := by
  refine met_start (by decide) (Nat.le_of_ble_eq_true rfl) ?_
  intro pp ee ss mm bl mt cd hC hpre ls hl
  obtain ⟨⟨hx, hb, hml, hown, hts⟩, hr, hlk, hnm⟩ := id hC
  have hl : lv_has ls 2 [(0, .ref (x 0)), (1, .int (i))] := hl
  obtain ⟨hP, hK, hD⟩ := hpre
  have hS : va_S (dm (cO g x (a 0) im te tr (u 0) ab be tb tn tf ++ (uW g u uf ++ (gW g a (ay 0) (ap 0) (b1 0) (b2 0) (b3 0) ++ (yW g ay r ++ (pW g ap N f ++ (rW g b1 N1 l1 f1 ++ (rW g b2 N2 l2 f2 ++ (rW g b3 N3 l3 f3 ++ []))))))))) ss.heap ss.heap [] := va_S.rf
  have hD := vD_self hD
  refine lv_aload_n hx hb dX8_look_0 rfl (lv_at hl 0 rfl) ?_
  refine kget hC.1 hK (kP_app.mp hP).1 0 rfl rfl in_8 0 (by decide) (gw_in m_282 rfl) rfl dX8_look_1 ?_
  refine kget hC.1 hK (kP_app.mp (kP_app.mp (kP_app.mp hP).2).2).1 0 rfl rfl in_1 0 (by decide) (gw_in m_180 rfl) rfl dX8_look_4 ?_
  refine lv_iload_n hx hb dX8_look_7 rfl (lv_at hl 1 rfl) ?_
  refine ro_i (run_V (As := [.int (i)]) (rest := []) hC.1 ckX7_isNut (kX7_isNut l g ay r i) (gw_in m_573 rfl) (fb_ro _ _ _) (va_recv hK.1 (kP_app.mp (kP_app.mp (kP_app.mp (kP_app.mp hP).2).2).2).1 (q0 := 0) rfl rfl) (fun U hU hW => ⟨by rw [hU]; exact (kP_app.mp (kP_app.mp (kP_app.mp (kP_app.mp hP).2).2).2).1, kK_warm hW hK⟩) ⟨rfl, rfl, Nat.le_of_ble_eq_true rfl, Nat.le_of_ble_eq_true rfl⟩ rfl hl.1 rfl (Nat.le_of_ble_eq_true rfl) dX8_look_8 ⟨Nat.le_of_ble_eq_true rfl, Nat.le_of_ble_eq_true rfl⟩) ?_
  refine lv_if_ne (tgt := 19) hx hb dX8_look_11 (by decide) (fun c1 => ?_) (fun c1 => ?_)
  · skip
    have c1 := b2i_1 c1
    refine lv_aload_n hx hb dX8_look_19 rfl (lv_at hl 0 rfl) ?_
    refine kget hC.1 hK (kP_app.mp hP).1 0 rfl rfl in_8 4 (by decide) (gw_in m_286 rfl) rfl dX8_look_20 ?_
    refine lv_iconst (v := 1) hx hb dX8_look_23 rfl ?_
    refine lv_aload_n hx hb dX8_look_24 rfl (lv_at hl 0 rfl) ?_
    refine kget hC.1 hK (kP_app.mp hP).1 0 rfl rfl in_8 0 (by decide) (gw_in m_282 rfl) rfl dX8_look_25 ?_
    refine lv_iload_n hx hb dX8_look_28 rfl (lv_at hl 1 rfl) ?_
    have hP : kP g (uW g u uf ++ (gW g a (ay 0) (ap 0) (b1 0) (b2 0) (b3 0) ++ (yW g ay r ++ (pW g ap N f ++ (rW g b1 N1 l1 f1 ++ (rW g b2 N2 l2 f2 ++ (rW g b3 N3 l3 f3 ++ (cO g x (a 0) im te tr (u 0) ab be tb tn tf ++ [])))))))) _ := kP_perm (((((((pm_swap _ _ _).trans (pmA _ (pm_swap _ _ _))).trans (pmA _ (pmA _ (pm_swap _ _ _)))).trans (pmA _ (pmA _ (pmA _ (pm_swap _ _ _))))).trans (pmA _ (pmA _ (pmA _ (pmA _ (pm_swap _ _ _)))))).trans (pmA _ (pmA _ (pmA _ (pmA _ (pmA _ (pm_swap _ _ _))))))).trans (pmA _ (pmA _ (pmA _ (pmA _ (pmA _ (pmA _ (pm_swap _ _ _)))))))) hP
    have hD : va_D _ (uW g u uf ++ (gW g a (ay 0) (ap 0) (b1 0) (b2 0) (b3 0) ++ (yW g ay r ++ (pW g ap N f ++ (rW g b1 N1 l1 f1 ++ (rW g b2 N2 l2 f2 ++ (rW g b3 N3 l3 f3 ++ (cO g x (a 0) im te tr (u 0) ab be tb tn tf ++ [])))))))) := vD_perm (((((((pm_swap _ _ _).trans (pmA _ (pm_swap _ _ _))).trans (pmA _ (pmA _ (pm_swap _ _ _)))).trans (pmA _ (pmA _ (pmA _ (pm_swap _ _ _))))).trans (pmA _ (pmA _ (pmA _ (pmA _ (pm_swap _ _ _)))))).trans (pmA _ (pmA _ (pmA _ (pmA _ (pmA _ (pm_swap _ _ _))))))).trans (pmA _ (pmA _ (pmA _ (pmA _ (pmA _ (pmA _ (pm_swap _ _ _)))))))) hD
    refine rx_i (run_V (rm := rmN 7) (As := [.int (1), .ref (a 0), .int (i)]) (rest := []) hC.1 ckX2_best (kX2_best_1 l g u uf a ay ap b1 b2 b3 r N f N1 N2 N3 l1 l2 l3 f1 f2 f3 i hw hN hf c1) (gw_in m_780 rfl) (fb_rw _ _ _) (va_recv hK.1 (kP_app.mp hP).1 (q0 := 0) rfl rfl) (fun U hU hW => ⟨by rw [hU]; exact (kP_app.mpr ⟨(kP_app.mp hP).1, (kP_app.mpr ⟨(kP_app.mp (kP_app.mp hP).2).1, (kP_app.mpr ⟨(kP_app.mp (kP_app.mp (kP_app.mp hP).2).2).1, (kP_app.mpr ⟨(kP_app.mp (kP_app.mp (kP_app.mp (kP_app.mp hP).2).2).2).1, (kP_app.mpr ⟨(kP_app.mp (kP_app.mp (kP_app.mp (kP_app.mp (kP_app.mp hP).2).2).2).2).1, (kP_app.mpr ⟨(kP_app.mp (kP_app.mp (kP_app.mp (kP_app.mp (kP_app.mp (kP_app.mp hP).2).2).2).2).2).1, (kP_app.mpr ⟨(kP_app.mp (kP_app.mp (kP_app.mp (kP_app.mp (kP_app.mp (kP_app.mp (kP_app.mp hP).2).2).2).2).2).2).1, kP_nil⟩)⟩)⟩)⟩)⟩)⟩)⟩), kK_warm hW hK, vD_sub (sbA _ (sbA _ (sbA _ (sbA _ (sbA _ (sbA _ (sbA _ (sb0 _)))))))) hD⟩) ⟨rfl, rfl, Nat.le_of_ble_eq_true rfl, Nat.le_of_ble_eq_true rfl⟩ rfl hl.1 rfl (Nat.le_of_ble_eq_true rfl) dX8_look_29 ⟨Nat.le_of_ble_eq_true rfl, Nat.le_of_ble_eq_true rfl⟩) (fun u => (adr_app uW_adr (adr_app rfl (adr_app rfl (adr_app rfl (adr_app rfl (adr_app rfl (adr_app rfl rfl)))))))) (asc7 _ _ _ _ _ _ _ _) (ww' := fun u9 : (Nat → Int32) => uW g u u9 ++ (gW g a (ay 0) (ap 0) (b1 0) (b2 0) (b3 0) ++ (yW g ay r ++ (pW g ap N f ++ (rW g b1 N1 l1 f1 ++ (rW g b2 N2 l2 f2 ++ (rW g b3 N3 l3 f3 ++ (cO g x (a 0) im te tr (u 0) ab be tb tn tf ++ [])))))))) (fun u => asc7 _ _ _ _ _ _ _ _) hP hD hS (fun u H locs hP hD hS => ?_)
    obtain ⟨x2, rfl⟩ : ∃ z, z = u := ⟨_, rfl⟩
    have hP : kP g (uW g u x2 ++ (gW g a (ay 0) (ap 0) (b1 0) (b2 0) (b3 0) ++ (yW g ay r ++ (pW g ap N f ++ (rW g b1 N1 l1 f1 ++ (rW g b2 N2 l2 f2 ++ (rW g b3 N3 l3 f3 ++ (cO g x (a 0) im te tr (u 0) ab be tb tn tf ++ [])))))))) H := hP
    have hD : va_D _ (uW g u x2 ++ (gW g a (ay 0) (ap 0) (b1 0) (b2 0) (b3 0) ++ (yW g ay r ++ (pW g ap N f ++ (rW g b1 N1 l1 f1 ++ (rW g b2 N2 l2 f2 ++ (rW g b3 N3 l3 f3 ++ (cO g x (a 0) im te tr (u 0) ab be tb tn tf ++ [])))))))) := hD
    have hP : kP g (cO g x (a 0) im te tr (u 0) ab be tb tn tf ++ (uW g u x2 ++ (gW g a (ay 0) (ap 0) (b1 0) (b2 0) (b3 0) ++ (yW g ay r ++ (pW g ap N f ++ (rW g b1 N1 l1 f1 ++ (rW g b2 N2 l2 f2 ++ (rW g b3 N3 l3 f3 ++ [])))))))) _ := kP_perm (((((((pmA _ (pmA _ (pmA _ (pmA _ (pmA _ (pmA _ (pm_swap _ _ _))))))).trans (pmA _ (pmA _ (pmA _ (pmA _ (pmA _ (pm_swap _ _ _))))))).trans (pmA _ (pmA _ (pmA _ (pmA _ (pm_swap _ _ _)))))).trans (pmA _ (pmA _ (pmA _ (pm_swap _ _ _))))).trans (pmA _ (pmA _ (pm_swap _ _ _)))).trans (pmA _ (pm_swap _ _ _))).trans (pm_swap _ _ _)) hP
    have hD : va_D _ (cO g x (a 0) im te tr (u 0) ab be tb tn tf ++ (uW g u x2 ++ (gW g a (ay 0) (ap 0) (b1 0) (b2 0) (b3 0) ++ (yW g ay r ++ (pW g ap N f ++ (rW g b1 N1 l1 f1 ++ (rW g b2 N2 l2 f2 ++ (rW g b3 N3 l3 f3 ++ [])))))))) := vD_perm (((((((pmA _ (pmA _ (pmA _ (pmA _ (pmA _ (pmA _ (pm_swap _ _ _))))))).trans (pmA _ (pmA _ (pmA _ (pmA _ (pmA _ (pm_swap _ _ _))))))).trans (pmA _ (pmA _ (pmA _ (pmA _ (pm_swap _ _ _)))))).trans (pmA _ (pmA _ (pmA _ (pm_swap _ _ _))))).trans (pmA _ (pmA _ (pm_swap _ _ _)))).trans (pmA _ (pm_swap _ _ _))).trans (pm_swap _ _ _)) hD
    exact ret_rxi (S := (Nat → Int32)) x2 hx hb hr hlk (by rw [if_pos c1]) (kP_eq (by rw [if_pos c1]) hP) hS dX8_look_32
  · skip
    have c1 := b2i_0 c1
    refine lv_aload_n hx hb dX8_look_14 rfl (lv_at hl 0 rfl) ?_
    refine rw_i (run_V (As := []) (rest := []) hC.1 ckX8_bad (kX8_bad l g x (a 0) im te tr (u 0) ab be tb tn tf) (gw_in m_320 rfl) (fb_rw _ _ _) (va_recv hK.1 (kP_app.mp hP).1 (q0 := 0) rfl rfl) (fun U hU hW => ⟨by rw [hU]; exact (kP_app.mpr ⟨(kP_app.mp hP).1, kP_nil⟩), kK_warm hW hK, vD_sub (sbA _ (sb0 _)) hD⟩) ⟨rfl, rfl, Nat.le_of_ble_eq_true rfl, Nat.le_of_ble_eq_true rfl⟩ rfl hl.1 rfl (Nat.le_of_ble_eq_true rfl) dX8_look_15 ⟨Nat.le_of_ble_eq_true rfl, Nat.le_of_ble_eq_true rfl⟩) (adr_app cO_adr rfl) (asc1 _ _) (ww' := cO g x (a 0) im te tr (u 0) ab be (tb + 1) tn tf ++ (uW g u uf ++ (gW g a (ay 0) (ap 0) (b1 0) (b2 0) (b3 0) ++ (yW g ay r ++ (pW g ap N f ++ (rW g b1 N1 l1 f1 ++ (rW g b2 N2 l2 f2 ++ (rW g b3 N3 l3 f3 ++ [])))))))) (asc1 _ _) hP hD hS (fun H locs hP hD hS => ?_)
    exact ret_rxi (S := (Nat → Int32)) uf hx hb hr hlk (by rw [if_neg (by rw [c1]; decide)]) (kP_eq (by rw [if_neg (by rw [c1]; decide)]) hP) hS dX8_look_18
set_option maxHeartbeats 4000000 in
set_option maxRecDepth 100000 in
theorem kX8_ask (l : Launch) (g : gG) (x : Nat → Nat) (im te tr : Nat) (ab be : Int64) (tb tn tf : Int32) (u : Nat → Nat) (uf : Nat → Int32) (a ay ap b1 b2 b3 : Nat → Nat) (r : Nat → Int32) (N : Nat) (f : Nat → Int32) (N1 N2 N3 : Nat) (l1 l2 l3 : Int32) (f1 f2 f3 : Nat → Int32) (i : Int32) (hw : Wf r) (hN : N3 ≤ 6) : Met l yX8_ask (.code yX8_ask cX8_ask 2 (some .int) :: gw) (rmN 8) (va_Pc [.ref (x 0), .int (i)] (rwPre g (cO g x (a 0) im te tr (u 0) ab be tb tn tf ++ (uW g u uf ++ (gW g a (ay 0) (ap 0) (b1 0) (b2 0) (b3 0) ++ (yW g ay r ++ (pW g ap N f ++ (rW g b1 N1 l1 f1 ++ (rW g b2 N2 l2 f2 ++ (rW g b3 N3 l3 f3 ++ [])))))))))) (rxQi g (cO g x (a 0) im te tr (u 0) ab be tb tn tf ++ (uW g u uf ++ (gW g a (ay 0) (ap 0) (b1 0) (b2 0) (b3 0) ++ (yW g ay r ++ (pW g ap N f ++ (rW g b1 N1 l1 f1 ++ (rW g b2 N2 l2 f2 ++ (rW g b3 N3 l3 f3 ++ [])))))))) (fun u9 : (Nat → Int32) => cO g x (a 0) im te tr (u 0) ab be (if yPl r i = true then tb else tb + 1) tn tf ++ (uW g u u9 ++ (gW g a (ay 0) (ap 0) (b1 0) (b2 0) (b3 0) ++ (yW g ay r ++ (pW g ap N f ++ (rW g b1 N1 l1 f1 ++ (rW g b2 N2 l2 f2 ++ (rW g b3 N3 l3 f3 ++ [])))))))) (if yPl r i = true then (if setB (fun k => allF f3 i (fun n => fit2 f3 (nI k) n) N3) 6 = 0 then -1 else (bsF (fun L => moF (fun k => frc (nI k) (yPF r i 1) (nI (L % 10)) (nI (L / 10))) (setB (fun k => allF f3 i (fun n => fit2 f3 (nI k) n) N3) 6) 10) (fun L => decide (L % 10 = 0)) 210).1) else -2)) 0 0 (dm (cO g x (a 0) im te tr (u 0) ab be tb tn tf ++ (uW g u uf ++ (gW g a (ay 0) (ap 0) (b1 0) (b2 0) (b3 0) ++ (yW g ay r ++ (pW g ap N f ++ (rW g b1 N1 l1 f1 ++ (rW g b2 N2 l2 f2 ++ (rW g b3 N3 l3 f3 ++ []))))))))) := by
  refine met_start (by decide) (Nat.le_of_ble_eq_true rfl) ?_
  intro pp ee ss mm bl mt cd hC hpre ls hl
  obtain ⟨⟨hx, hb, hml, hown, hts⟩, hr, hlk, hnm⟩ := id hC
  have hl : lv_has ls 2 [(0, .ref (x 0)), (1, .int (i))] := hl
  obtain ⟨hP, hK, hD⟩ := hpre
  have hS : va_S (dm (cO g x (a 0) im te tr (u 0) ab be tb tn tf ++ (uW g u uf ++ (gW g a (ay 0) (ap 0) (b1 0) (b2 0) (b3 0) ++ (yW g ay r ++ (pW g ap N f ++ (rW g b1 N1 l1 f1 ++ (rW g b2 N2 l2 f2 ++ (rW g b3 N3 l3 f3 ++ []))))))))) ss.heap ss.heap [] := va_S.rf
  have hD := vD_self hD
  refine lv_aload_n hx hb dX8_ask_0 rfl (lv_at hl 0 rfl) ?_
  refine kget hC.1 hK (kP_app.mp hP).1 0 rfl rfl in_8 0 (by decide) (gw_in m_282 rfl) rfl dX8_ask_1 ?_
  refine kget hC.1 hK (kP_app.mp (kP_app.mp (kP_app.mp hP).2).2).1 0 rfl rfl in_1 0 (by decide) (gw_in m_180 rfl) rfl dX8_ask_4 ?_
  refine lv_iload_n hx hb dX8_ask_7 rfl (lv_at hl 1 rfl) ?_
  refine ro_i (run_V (As := [.int (i)]) (rest := []) hC.1 ckX7_isPlayer (kX7_isPlayer l g ay r i) (gw_in m_356 rfl) (fb_ro _ _ _) (va_recv hK.1 (kP_app.mp (kP_app.mp (kP_app.mp (kP_app.mp hP).2).2).2).1 (q0 := 0) rfl rfl) (fun U hU hW => ⟨by rw [hU]; exact (kP_app.mp (kP_app.mp (kP_app.mp (kP_app.mp hP).2).2).2).1, kK_warm hW hK⟩) ⟨rfl, rfl, Nat.le_of_ble_eq_true rfl, Nat.le_of_ble_eq_true rfl⟩ rfl hl.1 rfl (Nat.le_of_ble_eq_true rfl) dX8_ask_8 ⟨Nat.le_of_ble_eq_true rfl, Nat.le_of_ble_eq_true rfl⟩) ?_
  refine lv_if_ne (tgt := 19) hx hb dX8_ask_11 (by decide) (fun c1 => ?_) (fun c1 => ?_)
  · skip
    have c1 := b2i_1 c1
    refine lv_aload_n hx hb dX8_ask_19 rfl (lv_at hl 0 rfl) ?_
    refine kget hC.1 hK (kP_app.mp hP).1 0 rfl rfl in_8 4 (by decide) (gw_in m_286 rfl) rfl dX8_ask_20 ?_
    refine lv_iconst (v := 2) hx hb dX8_ask_23 rfl ?_
    refine lv_aload_n hx hb dX8_ask_24 rfl (lv_at hl 0 rfl) ?_
    refine kget hC.1 hK (kP_app.mp hP).1 0 rfl rfl in_8 0 (by decide) (gw_in m_282 rfl) rfl dX8_ask_25 ?_
    refine lv_iload_n hx hb dX8_ask_28 rfl (lv_at hl 1 rfl) ?_
    have hP : kP g (uW g u uf ++ (gW g a (ay 0) (ap 0) (b1 0) (b2 0) (b3 0) ++ (yW g ay r ++ (pW g ap N f ++ (rW g b1 N1 l1 f1 ++ (rW g b2 N2 l2 f2 ++ (rW g b3 N3 l3 f3 ++ (cO g x (a 0) im te tr (u 0) ab be tb tn tf ++ [])))))))) _ := kP_perm (((((((pm_swap _ _ _).trans (pmA _ (pm_swap _ _ _))).trans (pmA _ (pmA _ (pm_swap _ _ _)))).trans (pmA _ (pmA _ (pmA _ (pm_swap _ _ _))))).trans (pmA _ (pmA _ (pmA _ (pmA _ (pm_swap _ _ _)))))).trans (pmA _ (pmA _ (pmA _ (pmA _ (pmA _ (pm_swap _ _ _))))))).trans (pmA _ (pmA _ (pmA _ (pmA _ (pmA _ (pmA _ (pm_swap _ _ _)))))))) hP
    have hD : va_D _ (uW g u uf ++ (gW g a (ay 0) (ap 0) (b1 0) (b2 0) (b3 0) ++ (yW g ay r ++ (pW g ap N f ++ (rW g b1 N1 l1 f1 ++ (rW g b2 N2 l2 f2 ++ (rW g b3 N3 l3 f3 ++ (cO g x (a 0) im te tr (u 0) ab be tb tn tf ++ [])))))))) := vD_perm (((((((pm_swap _ _ _).trans (pmA _ (pm_swap _ _ _))).trans (pmA _ (pmA _ (pm_swap _ _ _)))).trans (pmA _ (pmA _ (pmA _ (pm_swap _ _ _))))).trans (pmA _ (pmA _ (pmA _ (pmA _ (pm_swap _ _ _)))))).trans (pmA _ (pmA _ (pmA _ (pmA _ (pmA _ (pm_swap _ _ _))))))).trans (pmA _ (pmA _ (pmA _ (pmA _ (pmA _ (pmA _ (pm_swap _ _ _)))))))) hD
    refine rx_i (run_V (rm := rmN 7) (As := [.int (2), .ref (a 0), .int (i)]) (rest := []) hC.1 ckX2_best (kX2_best_2 l g u uf a ay ap b1 b2 b3 r N f N1 N2 N3 l1 l2 l3 f1 f2 f3 i hw hN) (gw_in m_780 rfl) (fb_rw _ _ _) (va_recv hK.1 (kP_app.mp hP).1 (q0 := 0) rfl rfl) (fun U hU hW => ⟨by rw [hU]; exact (kP_app.mpr ⟨(kP_app.mp hP).1, (kP_app.mpr ⟨(kP_app.mp (kP_app.mp hP).2).1, (kP_app.mpr ⟨(kP_app.mp (kP_app.mp (kP_app.mp hP).2).2).1, (kP_app.mpr ⟨(kP_app.mp (kP_app.mp (kP_app.mp (kP_app.mp hP).2).2).2).1, (kP_app.mpr ⟨(kP_app.mp (kP_app.mp (kP_app.mp (kP_app.mp (kP_app.mp hP).2).2).2).2).1, (kP_app.mpr ⟨(kP_app.mp (kP_app.mp (kP_app.mp (kP_app.mp (kP_app.mp (kP_app.mp hP).2).2).2).2).2).1, (kP_app.mpr ⟨(kP_app.mp (kP_app.mp (kP_app.mp (kP_app.mp (kP_app.mp (kP_app.mp (kP_app.mp hP).2).2).2).2).2).2).1, kP_nil⟩)⟩)⟩)⟩)⟩)⟩)⟩), kK_warm hW hK, vD_sub (sbA _ (sbA _ (sbA _ (sbA _ (sbA _ (sbA _ (sbA _ (sb0 _)))))))) hD⟩) ⟨rfl, rfl, Nat.le_of_ble_eq_true rfl, Nat.le_of_ble_eq_true rfl⟩ rfl hl.1 rfl (Nat.le_of_ble_eq_true rfl) dX8_ask_29 ⟨Nat.le_of_ble_eq_true rfl, Nat.le_of_ble_eq_true rfl⟩) (fun u => (adr_app uW_adr (adr_app rfl (adr_app rfl (adr_app rfl (adr_app rfl (adr_app rfl (adr_app rfl rfl)))))))) (asc7 _ _ _ _ _ _ _ _) (ww' := fun u9 : (Nat → Int32) => uW g u u9 ++ (gW g a (ay 0) (ap 0) (b1 0) (b2 0) (b3 0) ++ (yW g ay r ++ (pW g ap N f ++ (rW g b1 N1 l1 f1 ++ (rW g b2 N2 l2 f2 ++ (rW g b3 N3 l3 f3 ++ (cO g x (a 0) im te tr (u 0) ab be tb tn tf ++ [])))))))) (fun u => asc7 _ _ _ _ _ _ _ _) hP hD hS (fun u H locs hP hD hS => ?_)
    obtain ⟨x2, rfl⟩ : ∃ z, z = u := ⟨_, rfl⟩
    have hP : kP g (uW g u x2 ++ (gW g a (ay 0) (ap 0) (b1 0) (b2 0) (b3 0) ++ (yW g ay r ++ (pW g ap N f ++ (rW g b1 N1 l1 f1 ++ (rW g b2 N2 l2 f2 ++ (rW g b3 N3 l3 f3 ++ (cO g x (a 0) im te tr (u 0) ab be tb tn tf ++ [])))))))) H := hP
    have hD : va_D _ (uW g u x2 ++ (gW g a (ay 0) (ap 0) (b1 0) (b2 0) (b3 0) ++ (yW g ay r ++ (pW g ap N f ++ (rW g b1 N1 l1 f1 ++ (rW g b2 N2 l2 f2 ++ (rW g b3 N3 l3 f3 ++ (cO g x (a 0) im te tr (u 0) ab be tb tn tf ++ [])))))))) := hD
    have hP : kP g (cO g x (a 0) im te tr (u 0) ab be tb tn tf ++ (uW g u x2 ++ (gW g a (ay 0) (ap 0) (b1 0) (b2 0) (b3 0) ++ (yW g ay r ++ (pW g ap N f ++ (rW g b1 N1 l1 f1 ++ (rW g b2 N2 l2 f2 ++ (rW g b3 N3 l3 f3 ++ [])))))))) _ := kP_perm (((((((pmA _ (pmA _ (pmA _ (pmA _ (pmA _ (pmA _ (pm_swap _ _ _))))))).trans (pmA _ (pmA _ (pmA _ (pmA _ (pmA _ (pm_swap _ _ _))))))).trans (pmA _ (pmA _ (pmA _ (pmA _ (pm_swap _ _ _)))))).trans (pmA _ (pmA _ (pmA _ (pm_swap _ _ _))))).trans (pmA _ (pmA _ (pm_swap _ _ _)))).trans (pmA _ (pm_swap _ _ _))).trans (pm_swap _ _ _)) hP
    have hD : va_D _ (cO g x (a 0) im te tr (u 0) ab be tb tn tf ++ (uW g u x2 ++ (gW g a (ay 0) (ap 0) (b1 0) (b2 0) (b3 0) ++ (yW g ay r ++ (pW g ap N f ++ (rW g b1 N1 l1 f1 ++ (rW g b2 N2 l2 f2 ++ (rW g b3 N3 l3 f3 ++ [])))))))) := vD_perm (((((((pmA _ (pmA _ (pmA _ (pmA _ (pmA _ (pmA _ (pm_swap _ _ _))))))).trans (pmA _ (pmA _ (pmA _ (pmA _ (pmA _ (pm_swap _ _ _))))))).trans (pmA _ (pmA _ (pmA _ (pmA _ (pm_swap _ _ _)))))).trans (pmA _ (pmA _ (pmA _ (pm_swap _ _ _))))).trans (pmA _ (pmA _ (pm_swap _ _ _)))).trans (pmA _ (pm_swap _ _ _))).trans (pm_swap _ _ _)) hD
    exact ret_rxi (S := (Nat → Int32)) x2 hx hb hr hlk (by rw [if_pos c1]) (kP_eq (by rw [if_pos c1]) hP) hS dX8_ask_32
  · skip
    have c1 := b2i_0 c1
    refine lv_aload_n hx hb dX8_ask_14 rfl (lv_at hl 0 rfl) ?_
    refine rw_i (run_V (As := []) (rest := []) hC.1 ckX8_bad (kX8_bad l g x (a 0) im te tr (u 0) ab be tb tn tf) (gw_in m_320 rfl) (fb_rw _ _ _) (va_recv hK.1 (kP_app.mp hP).1 (q0 := 0) rfl rfl) (fun U hU hW => ⟨by rw [hU]; exact (kP_app.mpr ⟨(kP_app.mp hP).1, kP_nil⟩), kK_warm hW hK, vD_sub (sbA _ (sb0 _)) hD⟩) ⟨rfl, rfl, Nat.le_of_ble_eq_true rfl, Nat.le_of_ble_eq_true rfl⟩ rfl hl.1 rfl (Nat.le_of_ble_eq_true rfl) dX8_ask_15 ⟨Nat.le_of_ble_eq_true rfl, Nat.le_of_ble_eq_true rfl⟩) (adr_app cO_adr rfl) (asc1 _ _) (ww' := cO g x (a 0) im te tr (u 0) ab be (tb + 1) tn tf ++ (uW g u uf ++ (gW g a (ay 0) (ap 0) (b1 0) (b2 0) (b3 0) ++ (yW g ay r ++ (pW g ap N f ++ (rW g b1 N1 l1 f1 ++ (rW g b2 N2 l2 f2 ++ (rW g b3 N3 l3 f3 ++ [])))))))) (asc1 _ _) hP hD hS (fun H locs hP hD hS => ?_)
    exact ret_rxi (S := (Nat → Int32)) uf hx hb hr hlk (by rw [if_neg (by rw [c1]; decide)]) (kP_eq (by rw [if_neg (by rw [c1]; decide)]) hP) hS dX8_ask_18
