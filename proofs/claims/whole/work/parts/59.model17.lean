theorem ckX9_firm : ckV yX9_firm cX9_firm 4 (some .int) 2 := ⟨(gw_in m_1270 rfl), (gw_in m_71 rfl), ⟨(gw_in m_1268 rfl), (gw_in m_1269 rfl)⟩, by decide +kernel, by decide +kernel, by decide +kernel⟩
def lhM (r : Nat → Int32) (i j : Int32) (h : Nat) : Bool := decide (mLeft (btF true i j 60 0 (upd r (21 + cl i) (nI h))).2 i j = i)
set_option maxHeartbeats 4000000 in
set_option maxRecDepth 100000 in
theorem kX9_firm (l : Launch) (g : gG) (o : Nat → Nat) (ab be : Int64) (lm ra ta : Nat) (ti fa : Int32) (um ua : Nat) (hh : Int64) (rf : Nat → Int32) (r tr : Nat → Int32) (i j : Int32) (hw : Wf r) : Met l yX9_firm (.code yX9_firm cX9_firm 4 (some .int) :: gw) (rmN 4) (va_Pc [.ref (o 0), .int (i), .int (j)] (rwPre g (mO g o ab be lm ra ta ti fa um ua hh ++ (aW g (o 1) 3 rf ++ (aW g (o 2) 45 r ++ (aW g (o 3) 45 tr ++ [])))))) (rxQi g (mO g o ab be lm ra ta ti fa um ua hh ++ (aW g (o 1) 3 rf ++ (aW g (o 2) 45 r ++ (aW g (o 3) 45 tr ++ [])))) (fun u9 : (Nat → Int32) => mO g o ab be lm ra ta ti fa um ua hh ++ (aW g (o 1) 3 (if (yNut r i && yNut r j && decide (¬ i = j)) = true then rf else upd rf 0 (rf 0 + 1)) ++ (aW g (o 2) 45 r ++ (aW g (o 3) 45 u9 ++ [])))) (if (yNut r i && yNut r j && decide (¬ i = j)) = true then (if yCan r i j = true then fstN (lhM r i j) 10 else -1) else -2)) 0 0 (dm (mO g o ab be lm ra ta ti fa um ua hh ++ (aW g (o 1) 3 rf ++ (aW g (o 2) 45 r ++ (aW g (o 3) 45 tr ++ []))))) := by
  refine met_start (by decide) (Nat.le_of_ble_eq_true rfl) ?_
  intro pp ee ss mm bl mt cd hC hpre ls hl
  obtain ⟨⟨hx, hb, hml, hown, hts⟩, hr, hlk, hnm⟩ := id hC
  have hl : lv_has ls 4 [(0, .ref (o 0)), (1, .int (i)), (2, .int (j))] := hl
  obtain ⟨hP, hK, hD⟩ := hpre
  have hS : va_S (dm (mO g o ab be lm ra ta ti fa um ua hh ++ (aW g (o 1) 3 rf ++ (aW g (o 2) 45 r ++ (aW g (o 3) 45 tr ++ []))))) ss.heap ss.heap [] := va_S.rf
  have hD := vD_self hD
  refine lv_aload_n hx hb dX9_firm_0 rfl (lv_at hl 0 rfl) ?_
  refine lv_iload_n hx hb dX9_firm_1 rfl (lv_at hl 1 rfl) ?_
  refine lv_iload_n hx hb dX9_firm_2 rfl (lv_at hl 2 rfl) ?_
  refine ro_i (run_V (As := [.int (i), .int (j)]) (rest := []) hC.1 ckX9_isPair (kX9_isPair l g o ab be lm ra ta ti fa um ua hh r i j hw) (gw_in m_1182 rfl) (fb_ro _ _ _) (va_recv hK.1 (kP_app.mp hP).1 (q0 := 0) rfl rfl) (fun U hU hW => ⟨by rw [hU]; exact (kP_app.mpr ⟨(kP_app.mp hP).1, (kP_app.mpr ⟨(kP_app.mp (kP_app.mp (kP_app.mp hP).2).2).1, (kP_mem.mpr (fun _ h => absurd h List.not_mem_nil))⟩)⟩), kK_warm hW hK⟩) ⟨rfl, rfl, Nat.le_of_ble_eq_true rfl, Nat.le_of_ble_eq_true rfl⟩ rfl hl.1 rfl (Nat.le_of_ble_eq_true rfl) dX9_firm_3 ⟨Nat.le_of_ble_eq_true rfl, Nat.le_of_ble_eq_true rfl⟩) ?_
  refine lv_if_ne (tgt := 16) hx hb dX9_firm_6 (by decide) (fun c1 => ?_) (fun c1 => ?_)
  · skip
    have c1 := b2i_1 c1
    refine lv_iconst (v := 0) hx hb dX9_firm_16 rfl ?_
    refine lv_istore_n (lv' := [(3, .int (0)), (0, .ref (o 0)), (1, .int (i)), (2, .int (j))]) hx hb dX9_firm_17 rfl hl (by decide) rfl (fun ls hl => ?_)
    have cut18 : ∀ kk : Nat, ∀ (n : Nat) (tx9 : Nat → Int32), 11 - n < kk → (hn : n ≤ 10) → (hno : ∀ k, k < n → lhM r i j k = false) → ∀ (H : Heap) (locs : List Loc), kP g (mO g o ab be lm ra ta ti fa um ua hh ++ (aW g (o 1) 3 rf ++ (aW g (o 2) 45 r ++ (aW g (o 3) 45 tx9 ++ [])))) H → va_D (dm (mO g o ab be lm ra ta ti fa um ua hh ++ (aW g (o 1) 3 rf ++ (aW g (o 2) 45 r ++ (aW g (o 3) 45 tr ++ []))))) (mO g o ab be lm ra ta ti fa um ua hh ++ (aW g (o 1) 3 rf ++ (aW g (o 2) 45 r ++ (aW g (o 3) 45 tx9 ++ [])))) → va_S (dm (mO g o ab be lm ra ta ti fa um ua hh ++ (aW g (o 1) 3 rf ++ (aW g (o 2) 45 r ++ (aW g (o 3) 45 tr ++ []))))) ss.heap H locs → ∀ (ls : Array Slot), lv_has ls 4 [(0, .ref (o 0)), (1, .int (i)), (2, .int (j)), (3, .int (nI n))] → W pp l ee (rmN 4) ss mm ([.ref (o 0), .int (i), .int (j)] : List Value).toArray bl mt cd H locs 0 0 (MQ bl (rxQi g (mO g o ab be lm ra ta ti fa um ua hh ++ (aW g (o 1) 3 rf ++ (aW g (o 2) 45 r ++ (aW g (o 3) 45 tr ++ [])))) (fun u9 : (Nat → Int32) => mO g o ab be lm ra ta ti fa um ua hh ++ (aW g (o 1) 3 (if (yNut r i && yNut r j && decide (¬ i = j)) = true then rf else upd rf 0 (rf 0 + 1)) ++ (aW g (o 2) 45 r ++ (aW g (o 3) 45 u9 ++ [])))) (if (yNut r i && yNut r j && decide (¬ i = j)) = true then (if yCan r i j = true then fstN (lhM r i j) 10 else -1) else -2)) ([.ref (o 0), .int (i), .int (j)] : List Value).toArray ss 0 0 (dm (mO g o ab be lm ra ta ti fa um ua hh ++ (aW g (o 1) 3 rf ++ (aW g (o 2) 45 r ++ (aW g (o 3) 45 tr ++ [])))))) (F0 mm 18 ls []) := by
      intro kk
      induction kk with
      | zero => intro n tx9 hmu; exact absurd hmu (Nat.not_lt_zero _)
      | succ kk ih18 =>
        intro n tx9 hmu hn hno H locs hP hD hS ls hl
        refine lv_iload_n hx hb dX9_firm_18 rfl (lv_at hl 3 rfl) ?_
        refine lv_bipush (v := 10) hx hb dX9_firm_19 rfl ?_
        refine lv_icmp_ge (tgt := 89) hx hb dX9_firm_21 (by decide) (fun c2 => ?_) (fun c2 => ?_)
        · skip
          have c2' := Int32.not_lt.mpr c2
          have hn9 : n = 10 := by have := lp_ge (by omega) c2; rw [show (10 : Int32).toInt = 10 from rfl] at this; omega
          subst hn9
          have hres : (if yCan r i j = true then fstN (lhM r i j) 10 else -1) = -1 := by rw [fst_none hno]; exact ite_self _
          refine lv_iconst (v := -1) hx hb dX9_firm_89 rfl ?_
          exact ret_rxi (S := (Nat → Int32)) tx9 hx hb hr hlk (by rw [if_pos c1]; exact hres.symm) (kP_eq (by rw [if_pos c1]) hP) hS dX9_firm_90
        · skip
          have c2' := Int32.not_le.mp c2
          have hn9 : n < 10 := by have := lp_lt (by omega) c2; rw [show (10 : Int32).toInt = 10 from rfl] at this; omega
          refine lv_aload_n hx hb dX9_firm_24 rfl (lv_at hl 0 rfl) ?_
          refine kget hC.1 hK (kP_app.mp hP).1 0 rfl rfl in_9 3 (by decide) (gw_in m_963 rfl) rfl dX9_firm_25 ?_
          refine lv_iload_n hx hb dX9_firm_28 rfl (lv_at hl 1 rfl) ?_
          refine lv_iload_n hx hb dX9_firm_29 rfl (lv_at hl 2 rfl) ?_
          refine ro_i (run_S (As := [.ref (o 2), .int (i), .int (j)]) (rest := []) hC.1 ckX9_canStrike (kX9_canStrike l g (o 2) r i j hw) (gw_in m_1136 rfl) (fb_ro _ _ _) (fun U hU hW => ⟨by rw [hU]; exact (kP_app.mp (kP_app.mp (kP_app.mp hP).2).2).1, kK_warm hW hK⟩) ⟨rfl, rfl, Nat.le_of_ble_eq_true rfl, Nat.le_of_ble_eq_true rfl⟩ rfl hl.1 rfl (Nat.le_of_ble_eq_true rfl) dX9_firm_30 ⟨Nat.le_of_ble_eq_true rfl, Nat.le_of_ble_eq_true rfl⟩) ?_
          refine lv_if_eq (tgt := 89) hx hb dX9_firm_33 (by decide) (fun c3 => ?_) (fun c3 => ?_)
          · skip
            have c3 := b2i_0 c3
            have hres : (if yCan r i j = true then fstN (lhM r i j) 10 else -1) = -1 := if_neg (by rw [c3]; decide)
            refine lv_iconst (v := -1) hx hb dX9_firm_89 rfl ?_
            exact ret_rxi (S := (Nat → Int32)) tx9 hx hb hr hlk (by rw [if_pos c1]; exact hres.symm) (kP_eq (by rw [if_pos c1]) hP) hS dX9_firm_90
          · skip
            have c3 := b2i_1 c3
            have hcan := c3
            refine lv_aload_n hx hb dX9_firm_36 rfl (lv_at hl 0 rfl) ?_
            refine kget hC.1 hK (kP_app.mp hP).1 0 rfl rfl in_9 3 (by decide) (gw_in m_963 rfl) rfl dX9_firm_37 ?_
            refine lv_aload_n hx hb dX9_firm_40 rfl (lv_at hl 0 rfl) ?_
            refine kget hC.1 hK (kP_app.mp hP).1 0 rfl rfl in_9 4 (by decide) (gw_in m_964 rfl) rfl dX9_firm_41 ?_
            have hP : kP g (aW g (o 2) 45 r ++ (aW g (o 3) 45 tx9 ++ (mO g o ab be lm ra ta ti fa um ua hh ++ (aW g (o 1) 3 rf ++ [])))) _ := kP_perm ((((pmA _ (pm_swap _ _ _)).trans (pm_swap _ _ _)).trans (pmA _ (pmA _ (pm_swap _ _ _)))).trans (pmA _ (pm_swap _ _ _))) hP
            have hD : va_D _ (aW g (o 2) 45 r ++ (aW g (o 3) 45 tx9 ++ (mO g o ab be lm ra ta ti fa um ua hh ++ (aW g (o 1) 3 rf ++ [])))) := vD_perm ((((pmA _ (pm_swap _ _ _)).trans (pm_swap _ _ _)).trans (pmA _ (pmA _ (pm_swap _ _ _)))).trans (pmA _ (pm_swap _ _ _))) hD
            refine rw_v (run_S (As := [.ref (o 2), .ref (o 3)]) (rest := []) hC.1 ckX9_copies (kX9_copies l g (o 2) (o 3) r tx9) (gw_in m_1175 rfl) (fb_rw _ _ _) (fun U hU hW => ⟨by rw [hU]; exact (kP_app.mpr ⟨(kP_app.mp hP).1, (kP_app.mpr ⟨(kP_app.mp (kP_app.mp hP).2).1, kP_nil⟩)⟩), kK_warm hW hK, vD_sub (sbA _ (sbA _ (sb0 _))) hD⟩) ⟨rfl, rfl, Nat.le_of_ble_eq_true rfl, Nat.le_of_ble_eq_true rfl⟩ rfl hl.1 rfl (Nat.le_of_ble_eq_true rfl) dX9_firm_44 ⟨Nat.le_of_ble_eq_true rfl, Nat.le_of_ble_eq_true rfl⟩) (adr_app rfl (adr_app aW_adr rfl)) (asc2 _ _ _) (ww' := aW g (o 2) 45 r ++ (aW g (o 3) 45 r ++ (mO g o ab be lm ra ta ti fa um ua hh ++ (aW g (o 1) 3 rf ++ [])))) (asc2 _ _ _) hP hD hS (fun H locs hP hD hS => ?_)
            refine lv_aload_n hx hb dX9_firm_47 rfl (lv_at hl 0 rfl) ?_
            refine kget hC.1 hK (kP_app.mp (kP_app.mp (kP_app.mp hP).2).2).1 0 rfl rfl in_9 4 (by decide) (gw_in m_964 rfl) rfl dX9_firm_48 ?_
            refine lv_bipush (v := 21) hx hb dX9_firm_51 rfl ?_
            refine lv_iload_n hx hb dX9_firm_53 rfl (lv_at hl 1 rfl) ?_
            refine lv_iadd hx hb dX9_firm_54 ?_
            refine lv_iload_n hx hb dX9_firm_55 rfl (lv_at hl 3 rfl) ?_
            have hP : kP g (aW g (o 3) 45 r ++ (aW g (o 2) 45 r ++ (mO g o ab be lm ra ta ti fa um ua hh ++ (aW g (o 1) 3 rf ++ [])))) _ := kP_perm (pm_swap _ _ _) hP
            have hD : va_D _ (aW g (o 3) 45 r ++ (aW g (o 2) 45 r ++ (mO g o ab be lm ra ta ti fa um ua hh ++ (aW g (o 1) 3 rf ++ [])))) := vD_perm (pm_swap _ _ _) hD
            refine kast (B' := aW g (o 3) 45 (upd r (21 + cl i) (nI n))) hC.1 hK hP hD hS 0 rfl (ix_in (K := 21) (yCan_in1 c3 hw.n6) (by omega) (by omega)) (fun _ h => by rw [(show cl (21 + i) = 21 + cl i from ix_cl (K := 21) (yCan_in1 c3 hw.n6) (by omega))] at h; exact h) aW_adr dX9_firm_56 (fun H locs hP hD hS => ?_)
            refine lv_aload_n hx hb dX9_firm_57 rfl (lv_at hl 0 rfl) ?_
            refine kget hC.1 hK (kP_app.mp (kP_app.mp (kP_app.mp hP).2).2).1 0 rfl rfl in_9 4 (by decide) (gw_in m_964 rfl) rfl dX9_firm_58 ?_
            refine lv_iload_n hx hb dX9_firm_61 rfl (lv_at hl 1 rfl) ?_
            refine lv_iload_n hx hb dX9_firm_62 rfl (lv_at hl 2 rfl) ?_
            refine lv_iconst (v := 1) hx hb dX9_firm_63 rfl ?_
            refine rw_i (run_S (As := [.ref (o 3), .int (i), .int (j), .int (1)]) (rest := []) hC.1 ckX9_bouts (kX9_bouts l g (o 3) (upd r (21 + cl i) (nI n)) i j true (Wf_hd hw (yNut_cl hw (yCan_nut hcan).1) (by unfold bd; rw [nI_ti (by omega)]; omega)) (yCan_in1 hcan hw.n6) (yCan_in2 hcan hw.n6)) (gw_in m_1240 rfl) (fb_rw _ _ _) (fun U hU hW => ⟨by rw [hU]; exact (kP_app.mpr ⟨(kP_app.mp hP).1, kP_nil⟩), kK_warm hW hK, vD_sub (sbA _ (sb0 _)) hD⟩) ⟨rfl, rfl, Nat.le_of_ble_eq_true rfl, Nat.le_of_ble_eq_true rfl⟩ rfl hl.1 rfl (Nat.le_of_ble_eq_true rfl) dX9_firm_64 ⟨Nat.le_of_ble_eq_true rfl, Nat.le_of_ble_eq_true rfl⟩) (adr_app aW_adr rfl) (asc1 _ _) (ww' := aW g (o 3) 45 (btF true i j 60 0 (upd r (21 + cl i) (nI n))).2 ++ (aW g (o 2) 45 r ++ (mO g o ab be lm ra ta ti fa um ua hh ++ (aW g (o 1) 3 rf ++ [])))) (asc1 _ _) hP hD hS (fun H locs hP hD hS => ?_)
            refine lv_pop hx hb dX9_firm_67 rfl ?_
            refine lv_aload_n hx hb dX9_firm_68 rfl (lv_at hl 0 rfl) ?_
            refine kget hC.1 hK (kP_app.mp (kP_app.mp (kP_app.mp hP).2).2).1 0 rfl rfl in_9 4 (by decide) (gw_in m_964 rfl) rfl dX9_firm_69 ?_
            refine lv_iload_n hx hb dX9_firm_72 rfl (lv_at hl 1 rfl) ?_
            refine lv_iload_n hx hb dX9_firm_73 rfl (lv_at hl 2 rfl) ?_
            refine ro_i (run_S (As := [.ref (o 3), .int (i), .int (j)]) (rest := []) hC.1 ckX9_leftOf (kX9_leftOf l g (o 3) (btF true i j 60 0 (upd r (21 + cl i) (nI n))).2 i j (yCan_in1 hcan hw.n6) (yCan_in2 hcan hw.n6)) (gw_in m_1243 rfl) (fb_ro _ _ _) (fun U hU hW => ⟨by rw [hU]; exact (kP_app.mp hP).1, kK_warm hW hK⟩) ⟨rfl, rfl, Nat.le_of_ble_eq_true rfl, Nat.le_of_ble_eq_true rfl⟩ rfl hl.1 rfl (Nat.le_of_ble_eq_true rfl) dX9_firm_74 ⟨Nat.le_of_ble_eq_true rfl, Nat.le_of_ble_eq_true rfl⟩) ?_
            refine lv_iload_n hx hb dX9_firm_77 rfl (lv_at hl 1 rfl) ?_
            refine lv_icmp_ne (tgt := 83) hx hb dX9_firm_78 (by decide) (fun c4 => ?_) (fun c4 => ?_)
            · skip
              refine lv_iinc (v := nI (n + 1)) (lv' := [(3, .int (nI (n + 1))), (0, .ref (o 0)), (1, .int (i)), (2, .int (j))]) hx hb dX9_firm_83 hl (k := 3) rfl (inc_nI n) (by decide) rfl (fun ls hl => ?_)
              refine lv_goto (tgt := 18) hx hb dX9_firm_86 (by decide) ?_
              have hP : kP g (mO g o ab be lm ra ta ti fa um ua hh ++ (aW g (o 1) 3 rf ++ (aW g (o 2) 45 r ++ (aW g (o 3) 45 (btF true i j 60 0 (upd r (21 + cl i) (nI n))).2 ++ [])))) _ := kP_perm (((((pmA _ (pm_swap _ _ _)).trans (pm_swap _ _ _)).trans (pmA _ (pmA _ (pm_swap _ _ _)))).trans (pmA _ (pm_swap _ _ _))).trans (pmA _ (pmA _ (pm_swap _ _ _)))) hP
              have hD : va_D _ (mO g o ab be lm ra ta ti fa um ua hh ++ (aW g (o 1) 3 rf ++ (aW g (o 2) 45 r ++ (aW g (o 3) 45 (btF true i j 60 0 (upd r (21 + cl i) (nI n))).2 ++ [])))) := vD_perm (((((pmA _ (pm_swap _ _ _)).trans (pm_swap _ _ _)).trans (pmA _ (pmA _ (pm_swap _ _ _)))).trans (pmA _ (pm_swap _ _ _))).trans (pmA _ (pmA _ (pm_swap _ _ _)))) hD
              exact ih18 (n + 1) (btF true i j 60 0 (upd r (21 + cl i) (nI n))).2 (by omega) (by omega) (lt_s hno (by unfold lhM; simp [c4])) _ _ hP hD hS _ (lv_sub hl [1, 2, 3, 0] rfl)
            · skip
              have hres : (if yCan r i j = true then fstN (lhM r i j) 10 else -1) = nI n := by rw [if_pos hcan]; exact fst_hit (by unfold lhM; simp [c4]) hn9 hno
              refine lv_iload_n hx hb dX9_firm_81 rfl (lv_at hl 3 rfl) ?_
              have hP : kP g (mO g o ab be lm ra ta ti fa um ua hh ++ (aW g (o 1) 3 rf ++ (aW g (o 2) 45 r ++ (aW g (o 3) 45 (btF true i j 60 0 (upd r (21 + cl i) (nI n))).2 ++ [])))) _ := kP_perm (((((pmA _ (pm_swap _ _ _)).trans (pm_swap _ _ _)).trans (pmA _ (pmA _ (pm_swap _ _ _)))).trans (pmA _ (pm_swap _ _ _))).trans (pmA _ (pmA _ (pm_swap _ _ _)))) hP
              have hD : va_D _ (mO g o ab be lm ra ta ti fa um ua hh ++ (aW g (o 1) 3 rf ++ (aW g (o 2) 45 r ++ (aW g (o 3) 45 (btF true i j 60 0 (upd r (21 + cl i) (nI n))).2 ++ [])))) := vD_perm (((((pmA _ (pm_swap _ _ _)).trans (pm_swap _ _ _)).trans (pmA _ (pmA _ (pm_swap _ _ _)))).trans (pmA _ (pm_swap _ _ _))).trans (pmA _ (pmA _ (pm_swap _ _ _)))) hD
              exact ret_rxi (S := (Nat → Int32)) (btF true i j 60 0 (upd r (21 + cl i) (nI n))).2 hx hb hr hlk (by rw [if_pos c1]; exact hres.symm) (kP_eq (by rw [if_pos c1]) hP) hS dX9_firm_82
    exact cut18 _ 0 tr (Nat.lt_succ_self _) (by omega) (fun j h => absurd h (Nat.not_lt_zero j)) _ _ hP hD hS _ (lv_sub hl [1, 2, 3, 0] rfl)
  · skip
    have c1 := b2i_0 c1
    refine lv_aload_n hx hb dX9_firm_9 rfl (lv_at hl 0 rfl) ?_
    refine lv_bipush (v := -2) hx hb dX9_firm_10 rfl ?_
    refine rw_i (run_V (As := [.int (-2)]) (rest := []) hC.1 ckX9_bad (kX9_bad l g o ab be lm ra ta ti fa um ua hh rf (-2)) (gw_in m_1041 rfl) (fb_rw _ _ _) (va_recv hK.1 (kP_app.mp hP).1 (q0 := 0) rfl rfl) (fun U hU hW => ⟨by rw [hU]; exact (kP_app.mpr ⟨(kP_app.mp hP).1, (kP_app.mpr ⟨(kP_app.mp (kP_app.mp hP).2).1, kP_nil⟩)⟩), kK_warm hW hK, vD_sub (sbA _ (sbA _ (sb0 _))) hD⟩) ⟨rfl, rfl, Nat.le_of_ble_eq_true rfl, Nat.le_of_ble_eq_true rfl⟩ rfl hl.1 rfl (Nat.le_of_ble_eq_true rfl) dX9_firm_12 ⟨Nat.le_of_ble_eq_true rfl, Nat.le_of_ble_eq_true rfl⟩) (adr_app rfl (adr_app aW_adr rfl)) (asc2 _ _ _) (ww' := mO g o ab be lm ra ta ti fa um ua hh ++ (aW g (o 1) 3 (upd rf 0 (rf 0 + 1)) ++ (aW g (o 2) 45 r ++ (aW g (o 3) 45 tr ++ [])))) (asc2 _ _ _) hP hD hS (fun H locs hP hD hS => ?_)
    exact ret_rxi (S := (Nat → Int32)) tr hx hb hr hlk (by simp only [c1, if_true, if_false, eq_self, Bool.false_eq_true, Bool.and_true, Bool.true_and, Bool.and_false, Bool.false_and]) (kP_eq (by simp only [c1, if_true, if_false, eq_self, Bool.false_eq_true, Bool.and_true, Bool.true_and, Bool.and_false, Bool.false_and]) hP) hS dX9_firm_15
