set_option maxHeartbeats 4000000 in
set_option maxRecDepth 100000 in
theorem kX6_leastHard_w (l : Launch) (g : gG) (t c : Nat → Nat) (sg : Nat → Nat) (bs bc : Int32) (p1 p2 p3 p4 p5 rg : Nat → Int32) (a : Nat → Nat) (r : Nat → Int32) (i j : Int32) (hw : Wf r) (hg : Wf rg) : Met l yX6_leastHard (.code yX6_leastHard cX6_leastHard 6 (some .int) :: gw) (rmN 5) (va_Pc [.ref (t 0), .ref (a 0), .int (i), .int (j)] (rwPre g (tW g t (c 0) sg bs bc p1 p2 p3 p4 p5 ++ (yW g c rg ++ (yW g a r ++ []))))) (rxQi g (tW g t (c 0) sg bs bc p1 p2 p3 p4 p5 ++ (yW g c rg ++ (yW g a r ++ []))) (fun u9 : ({q : Nat → Int32 // Wf q}) => tW g t (c 0) sg bs bc p1 p2 p3 p4 p5 ++ (yW g c u9.1 ++ (yW g a r ++ []))) (fstN (lhB r i j) 10)) 0 0 (dm (tW g t (c 0) sg bs bc p1 p2 p3 p4 p5 ++ (yW g c rg ++ (yW g a r ++ [])))) := by
  refine met_start (by decide) (Nat.le_of_ble_eq_true rfl) ?_
  intro pp ee ss mm bl mt cd hC hpre ls hl
  obtain ⟨⟨hx, hb, hml, hown, hts⟩, hr, hlk, hnm⟩ := id hC
  have hl : lv_has ls 6 [(0, .ref (t 0)), (1, .ref (a 0)), (2, .int (i)), (3, .int (j))] := hl
  obtain ⟨hP, hK, hD⟩ := hpre
  have hS : va_S (dm (tW g t (c 0) sg bs bc p1 p2 p3 p4 p5 ++ (yW g c rg ++ (yW g a r ++ [])))) ss.heap ss.heap [] := va_S.rf
  have hD := vD_self hD
  refine lv_iconst (v := 0) hx hb dX6_leastHard_0 rfl ?_
  refine lv_istore (lv' := [(4, .int (0)), (0, .ref (t 0)), (1, .ref (a 0)), (2, .int (i)), (3, .int (j))]) hx hb dX6_leastHard_1 hl (by decide) rfl (fun ls hl => ?_)
  have cut3 : ∀ kk : Nat, ∀ (n : Nat) (gx : {q : Nat → Int32 // Wf q}), 11 - n < kk → (hn : n ≤ 10) → (hno : ∀ k, k < n → lhB r i j k = false) → ∀ (H : Heap) (locs : List Loc), kP g (tW g t (c 0) sg bs bc p1 p2 p3 p4 p5 ++ (yW g c gx.1 ++ (yW g a r ++ []))) H → va_D (dm (tW g t (c 0) sg bs bc p1 p2 p3 p4 p5 ++ (yW g c rg ++ (yW g a r ++ [])))) (tW g t (c 0) sg bs bc p1 p2 p3 p4 p5 ++ (yW g c gx.1 ++ (yW g a r ++ []))) → va_S (dm (tW g t (c 0) sg bs bc p1 p2 p3 p4 p5 ++ (yW g c rg ++ (yW g a r ++ [])))) ss.heap H locs → ∀ (ls : Array Slot), lv_has ls 6 [(0, .ref (t 0)), (1, .ref (a 0)), (2, .int (i)), (3, .int (j)), (4, .int (nI n))] → W pp l ee (rmN 5) ss mm ([.ref (t 0), .ref (a 0), .int (i), .int (j)] : List Value).toArray bl mt cd H locs 0 0 (MQ bl (rxQi g (tW g t (c 0) sg bs bc p1 p2 p3 p4 p5 ++ (yW g c rg ++ (yW g a r ++ []))) (fun u9 : ({q : Nat → Int32 // Wf q}) => tW g t (c 0) sg bs bc p1 p2 p3 p4 p5 ++ (yW g c u9.1 ++ (yW g a r ++ []))) (fstN (lhB r i j) 10)) ([.ref (t 0), .ref (a 0), .int (i), .int (j)] : List Value).toArray ss 0 0 (dm (tW g t (c 0) sg bs bc p1 p2 p3 p4 p5 ++ (yW g c rg ++ (yW g a r ++ []))))) (F0 mm 3 ls []) := by
    intro kk
    induction kk with
    | zero => intro n gx hmu; exact absurd hmu (Nat.not_lt_zero _)
    | succ kk ih3 =>
      intro n gx hmu hn hno H locs hP hD hS ls hl
      refine lv_iload hx hb dX6_leastHard_3 (lv_at hl 4 rfl) ?_
      refine lv_bipush (v := 10) hx hb dX6_leastHard_5 rfl ?_
      refine lv_icmp_ge (tgt := 68) hx hb dX6_leastHard_7 (by decide) (fun c1 => ?_) (fun c1 => ?_)
      · skip
        have c1' := Int32.not_lt.mpr c1
        have hn9 : n = 10 := by have := lp_ge (by omega) c1; rw [show (10 : Int32).toInt = 10 from rfl] at this; omega
        refine lv_iconst (v := -1) hx hb dX6_leastHard_68 rfl ?_
        exact ret_rxi (S := ({q : Nat → Int32 // Wf q})) gx hx hb hr hlk (by subst hn9; exact (fst_none hno).symm) (hP) hS dX6_leastHard_69
      · skip
        have c1' := Int32.not_le.mp c1
        have hn9 : n < 10 := by have := lp_lt (by omega) c1; rw [show (10 : Int32).toInt = 10 from rfl] at this; omega
        refine lv_aload_n hx hb dX6_leastHard_10 rfl (lv_at hl 0 rfl) ?_
        refine kget hC.1 hK (kP_app.mp hP).1 0 rfl rfl in_6 0 (by decide) (gw_in m_241 rfl) rfl dX6_leastHard_11 ?_
        refine lv_aload_n hx hb dX6_leastHard_14 rfl (lv_at hl 1 rfl) ?_
        have hP : kP g (yW g c gx.1 ++ (yW g a r ++ (tW g t (c 0) sg bs bc p1 p2 p3 p4 p5 ++ []))) _ := kP_perm ((pm_swap _ _ _).trans (pmA _ (pm_swap _ _ _))) hP
        have hD : va_D _ (yW g c gx.1 ++ (yW g a r ++ (tW g t (c 0) sg bs bc p1 p2 p3 p4 p5 ++ []))) := vD_perm ((pm_swap _ _ _).trans (pmA _ (pm_swap _ _ _))) hD
        refine rw_v (run_V (As := [.ref (a 0)]) (rest := []) hC.1 ckX7_copyOf (kX7_copyOf l g c a gx.1 r) (gw_in m_647 rfl) (fb_rw _ _ _) (va_recv hK.1 (kP_app.mp hP).1 (q0 := 0) rfl rfl) (fun U hU hW => ⟨by rw [hU]; exact (kP_app.mpr ⟨(kP_app.mp hP).1, (kP_app.mpr ⟨(kP_app.mp (kP_app.mp hP).2).1, kP_nil⟩)⟩), kK_warm hW hK, vD_sub (sbA _ (sbA _ (sb0 _))) hD⟩) ⟨rfl, rfl, Nat.le_of_ble_eq_true rfl, Nat.le_of_ble_eq_true rfl⟩ rfl hl.1 rfl (Nat.le_of_ble_eq_true rfl) dX6_leastHard_15 ⟨Nat.le_of_ble_eq_true rfl, Nat.le_of_ble_eq_true rfl⟩) (adr_app yW_adr (adr_app rfl rfl)) (asc2 _ _ _) (ww' := yW g c r ++ (yW g a r ++ (tW g t (c 0) sg bs bc p1 p2 p3 p4 p5 ++ []))) (asc2 _ _ _) hP hD hS (fun H locs hP hD hS => ?_)
        refine lv_aload_n hx hb dX6_leastHard_18 rfl (lv_at hl 0 rfl) ?_
        refine kget hC.1 hK (kP_app.mp (kP_app.mp (kP_app.mp hP).2).2).1 0 rfl rfl in_6 0 (by decide) (gw_in m_241 rfl) rfl dX6_leastHard_19 ?_
        refine lv_iload_n hx hb dX6_leastHard_22 rfl (lv_at hl 2 rfl) ?_
        refine lv_iload hx hb dX6_leastHard_23 (lv_at hl 4 rfl) ?_
        refine rw_v (run_V (As := [.int (i), .int (nI n)]) (rest := []) hC.1 ckX7_makeHard (kX7_makeHard l g c r i (nI n) hw.n6) (gw_in m_719 rfl) (fb_rw _ _ _) (va_recv hK.1 (kP_app.mp hP).1 (q0 := 0) rfl rfl) (fun U hU hW => ⟨by rw [hU]; exact (kP_app.mpr ⟨(kP_app.mp hP).1, kP_nil⟩), kK_warm hW hK, vD_sub (sbA _ (sb0 _)) hD⟩) ⟨rfl, rfl, Nat.le_of_ble_eq_true rfl, Nat.le_of_ble_eq_true rfl⟩ rfl hl.1 rfl (Nat.le_of_ble_eq_true rfl) dX6_leastHard_25 ⟨Nat.le_of_ble_eq_true rfl, Nat.le_of_ble_eq_true rfl⟩) (adr_app yW_adr rfl) (asc1 _ _) (ww' := yW g c (if yNut r i = true then upd r (21 + cl i) (nI n) else r) ++ (yW g a r ++ (tW g t (c 0) sg bs bc p1 p2 p3 p4 p5 ++ []))) (asc1 _ _) hP hD hS (fun H locs hP hD hS => ?_)
        rw [show (if yNut r i = true then upd r (21 + cl i) (nI n) else r) = (mkh r i n) from rfl] at hP hD
        refine lv_aload_n hx hb dX6_leastHard_28 rfl (lv_at hl 0 rfl) ?_
        refine kget hC.1 hK (kP_app.mp (kP_app.mp (kP_app.mp hP).2).2).1 0 rfl rfl in_6 0 (by decide) (gw_in m_241 rfl) rfl dX6_leastHard_29 ?_
        refine lv_iload_n hx hb dX6_leastHard_32 rfl (lv_at hl 2 rfl) ?_
        refine lv_iload_n hx hb dX6_leastHard_33 rfl (lv_at hl 3 rfl) ?_
        refine lv_iconst (v := 1) hx hb dX6_leastHard_34 rfl ?_
        refine rw_i (run_S (As := [.ref (c 0), .int (i), .int (j), .int (1)]) (rest := []) hC.1 ckX6_fight (kX6_fight l g c (mkh r i n) i j true (Wf_mkh hw (by omega))) (gw_in m_648 rfl) (fb_rw _ _ _) (fun U hU hW => ⟨by rw [hU]; exact (kP_app.mpr ⟨(kP_app.mp hP).1, kP_nil⟩), kK_warm hW hK, vD_sub (sbA _ (sb0 _)) hD⟩) ⟨rfl, rfl, Nat.le_of_ble_eq_true rfl, Nat.le_of_ble_eq_true rfl⟩ rfl hl.1 rfl (Nat.le_of_ble_eq_true rfl) dX6_leastHard_35 ⟨Nat.le_of_ble_eq_true rfl, Nat.le_of_ble_eq_true rfl⟩) (adr_app yW_adr rfl) (asc1 _ _) (ww' := yW g c (fgt true i j 60 0 (mkh r i n)).2 ++ (yW g a r ++ (tW g t (c 0) sg bs bc p1 p2 p3 p4 p5 ++ []))) (asc1 _ _) hP hD hS (fun H locs hP hD hS => ?_)
        refine lv_istore (lv' := [(5, .int ((fgt true i j 60 0 (mkh r i n)).1)), (0, .ref (t 0)), (1, .ref (a 0)), (2, .int (i)), (3, .int (j)), (4, .int (nI n))]) hx hb dX6_leastHard_38 hl (by decide) rfl (fun ls hl => ?_)
        refine lv_iload hx hb dX6_leastHard_40 (lv_at hl 0 rfl) ?_
        refine lv_iconst (v := -1) hx hb dX6_leastHard_42 rfl ?_
        refine lv_icmp_eq (tgt := 62) hx hb dX6_leastHard_43 (by decide) (fun c2 => ?_) (fun c2 => ?_)
        · skip
          refine lv_iinc (v := nI (n + 1)) (lv' := [(4, .int (nI (n + 1))), (5, .int ((fgt true i j 60 0 (mkh r i n)).1)), (0, .ref (t 0)), (1, .ref (a 0)), (2, .int (i)), (3, .int (j))]) hx hb dX6_leastHard_62 hl (k := 5) rfl (inc_nI n) (by decide) rfl (fun ls hl => ?_)
          refine lv_goto (tgt := 3) hx hb dX6_leastHard_65 (by decide) ?_
          have hP : kP g (tW g t (c 0) sg bs bc p1 p2 p3 p4 p5 ++ (yW g c (fgt true i j 60 0 (mkh r i n)).2 ++ (yW g a r ++ []))) _ := kP_perm ((pmA _ (pm_swap _ _ _)).trans (pm_swap _ _ _)) hP
          have hD : va_D _ (tW g t (c 0) sg bs bc p1 p2 p3 p4 p5 ++ (yW g c (fgt true i j 60 0 (mkh r i n)).2 ++ (yW g a r ++ []))) := vD_perm ((pmA _ (pm_swap _ _ _)).trans (pm_swap _ _ _)) hD
          exact ih3 (n + 1) (⟨(fgt true i j 60 0 (mkh r i n)).2, Wf_fgt (Wf_mkh hw (by omega))⟩) (by omega) (by omega) (lt_s hno (by unfold lhB; simp [c1', c2])) _ _ hP hD hS _ (lv_sub hl [2, 3, 4, 5, 0] rfl)
        · skip
          refine lv_aload_n hx hb dX6_leastHard_46 rfl (lv_at hl 1 rfl) ?_
          refine kget hC.1 hK (kP_app.mp (kP_app.mp (kP_app.mp hP).2).2).1 0 rfl rfl in_6 0 (by decide) (gw_in m_241 rfl) rfl dX6_leastHard_47 ?_
          refine lv_iload_n hx hb dX6_leastHard_50 rfl (lv_at hl 3 rfl) ?_
          refine lv_iload_n hx hb dX6_leastHard_51 rfl (lv_at hl 4 rfl) ?_
          refine ro_i (run_V (As := [.int (i), .int (j)]) (rest := []) hC.1 ckX7_leftOf (kX7_leftOf l g c (fgt true i j 60 0 (mkh r i n)).2 i j (Wf_fgt (Wf_mkh hw (by omega))).n6) (gw_in m_723 rfl) (fb_ro _ _ _) (va_recv hK.1 (kP_app.mp hP).1 (q0 := 0) rfl rfl) (fun U hU hW => ⟨by rw [hU]; exact (kP_app.mp hP).1, kK_warm hW hK⟩) ⟨rfl, rfl, Nat.le_of_ble_eq_true rfl, Nat.le_of_ble_eq_true rfl⟩ rfl hl.1 rfl (Nat.le_of_ble_eq_true rfl) dX6_leastHard_52 ⟨Nat.le_of_ble_eq_true rfl, Nat.le_of_ble_eq_true rfl⟩) ?_
          refine lv_iload_n hx hb dX6_leastHard_55 rfl (lv_at hl 3 rfl) ?_
          refine lv_icmp_ne (tgt := 62) hx hb dX6_leastHard_56 (by decide) (fun c3 => ?_) (fun c3 => ?_)
          · skip
            refine lv_iinc (v := nI (n + 1)) (lv' := [(4, .int (nI (n + 1))), (5, .int ((fgt true i j 60 0 (mkh r i n)).1)), (0, .ref (t 0)), (1, .ref (a 0)), (2, .int (i)), (3, .int (j))]) hx hb dX6_leastHard_62 hl (k := 5) rfl (inc_nI n) (by decide) rfl (fun ls hl => ?_)
            refine lv_goto (tgt := 3) hx hb dX6_leastHard_65 (by decide) ?_
            have hP : kP g (tW g t (c 0) sg bs bc p1 p2 p3 p4 p5 ++ (yW g c (fgt true i j 60 0 (mkh r i n)).2 ++ (yW g a r ++ []))) _ := kP_perm ((pmA _ (pm_swap _ _ _)).trans (pm_swap _ _ _)) hP
            have hD : va_D _ (tW g t (c 0) sg bs bc p1 p2 p3 p4 p5 ++ (yW g c (fgt true i j 60 0 (mkh r i n)).2 ++ (yW g a r ++ []))) := vD_perm ((pmA _ (pm_swap _ _ _)).trans (pm_swap _ _ _)) hD
            exact ih3 (n + 1) (⟨(fgt true i j 60 0 (mkh r i n)).2, Wf_fgt (Wf_mkh hw (by omega))⟩) (by omega) (by omega) (lt_s hno (by unfold lhB; simp [c2, c3])) _ _ hP hD hS _ (lv_sub hl [2, 3, 4, 5, 0] rfl)
          · skip
            refine lv_iload hx hb dX6_leastHard_59 (lv_at hl 5 rfl) ?_
            have hP : kP g (tW g t (c 0) sg bs bc p1 p2 p3 p4 p5 ++ (yW g c (fgt true i j 60 0 (mkh r i n)).2 ++ (yW g a r ++ []))) _ := kP_perm ((pmA _ (pm_swap _ _ _)).trans (pm_swap _ _ _)) hP
            have hD : va_D _ (tW g t (c 0) sg bs bc p1 p2 p3 p4 p5 ++ (yW g c (fgt true i j 60 0 (mkh r i n)).2 ++ (yW g a r ++ []))) := vD_perm ((pmA _ (pm_swap _ _ _)).trans (pm_swap _ _ _)) hD
            exact ret_rxi (S := ({q : Nat → Int32 // Wf q})) (⟨(fgt true i j 60 0 (mkh r i n)).2, Wf_fgt (Wf_mkh hw (by omega))⟩) hx hb hr hlk (by exact (fst_hit (by unfold lhB; simp [hn, hno, c1, c1', c2, c3]) hn9 hno).symm) (hP) hS dX6_leastHard_61
  exact cut3 _ 0 (⟨rg, hg⟩) (Nat.lt_succ_self _) (by omega) (fun j h => absurd h (Nat.not_lt_zero j)) _ _ hP hD hS _ (lv_sub hl [1, 2, 3, 4, 0] rfl)
set_option maxHeartbeats 4000000 in
set_option maxRecDepth 100000 in
theorem kX6_bestMatch_w (l : Launch) (g : gG) (t c : Nat → Nat) (sg : Nat → Nat) (bs bc : Int32) (p1 p2 p3 p4 p5 rg : Nat → Int32) (a : Nat → Nat) (r : Nat → Int32) (p : Int32) (hw : Wf r) (hg : Wf rg) : Met l yX6_bestMatch (.code yX6_bestMatch cX6_bestMatch 8 (some .int) :: gw) (rmN 6) (va_Pc [.ref (t 0), .ref (a 0), .int (p)] (rwPre g (tW g t (c 0) sg bs bc p1 p2 p3 p4 p5 ++ (yW g c rg ++ (yW g a r ++ []))))) (rxQi g (tW g t (c 0) sg bs bc p1 p2 p3 p4 p5 ++ (yW g c rg ++ (yW g a r ++ []))) (fun u9 : ({q : Nat → Int32 // Wf q}) => tW g t (c 0) sg (bmF r p 36).2 bc p1 p2 p3 p4 p5 ++ (yW g c u9.1 ++ (yW g a r ++ []))) (bmF r p 36).1) 0 0 (dm (tW g t (c 0) sg bs bc p1 p2 p3 p4 p5 ++ (yW g c rg ++ (yW g a r ++ [])))) := by
  refine met_start (by decide) (Nat.le_of_ble_eq_true rfl) ?_
  intro pp ee ss mm bl mt cd hC hpre ls hl
  obtain ⟨⟨hx, hb, hml, hown, hts⟩, hr, hlk, hnm⟩ := id hC
  have hl : lv_has ls 8 [(0, .ref (t 0)), (1, .ref (a 0)), (2, .int (p))] := hl
  obtain ⟨hP, hK, hD⟩ := hpre
  have hS : va_S (dm (tW g t (c 0) sg bs bc p1 p2 p3 p4 p5 ++ (yW g c rg ++ (yW g a r ++ [])))) ss.heap ss.heap [] := va_S.rf
  have hD := vD_self hD
  refine lv_iconst (v := -1) hx hb dX6_bestMatch_0 rfl ?_
  refine lv_istore_n (lv' := [(3, .int (-1)), (0, .ref (t 0)), (1, .ref (a 0)), (2, .int (p))]) hx hb dX6_bestMatch_1 rfl hl (by decide) rfl (fun ls hl => ?_)
  refine lv_aload_n hx hb dX6_bestMatch_2 rfl (lv_at hl 1 rfl) ?_
  refine lv_iconst (v := -1) hx hb dX6_bestMatch_3 rfl ?_
  refine kput (B' := tW g t (c 0) sg (-1) bc p1 p2 p3 p4 p5) hC.1 hK hP hD hS 0 rfl rfl in_6 tyX6 tyX6_ok nmX6 1 (by decide) (gw_in m_243 rfl) rfl (ty := .int) (by decide +kernel) rfl rfl (Nat.le_of_ble_eq_true rfl) (fun _ h => h) tW_adr dX6_bestMatch_4 (fun H locs hP hD hS => ?_)
  refine lv_iconst (v := 0) hx hb dX6_bestMatch_7 rfl ?_
  refine lv_istore (lv' := [(4, .int (0)), (3, .int (-1)), (0, .ref (t 0)), (1, .ref (a 0)), (2, .int (p))]) hx hb dX6_bestMatch_8 hl (by decide) rfl (fun ls hl => ?_)
  have cut10 : ∀ kk : Nat, ∀ (n : Nat) (gx : {q : Nat → Int32 // Wf q}), 37 - n < kk → (hn : n ≤ 36) → ∀ (H : Heap) (locs : List Loc), kP g (tW g t (c 0) sg (bmF r p n).2 bc p1 p2 p3 p4 p5 ++ (yW g c gx.1 ++ (yW g a r ++ []))) H → va_D (dm (tW g t (c 0) sg bs bc p1 p2 p3 p4 p5 ++ (yW g c rg ++ (yW g a r ++ [])))) (tW g t (c 0) sg (bmF r p n).2 bc p1 p2 p3 p4 p5 ++ (yW g c gx.1 ++ (yW g a r ++ []))) → va_S (dm (tW g t (c 0) sg bs bc p1 p2 p3 p4 p5 ++ (yW g c rg ++ (yW g a r ++ [])))) ss.heap H locs → ∀ (ls : Array Slot), lv_has ls 8 [(0, .ref (t 0)), (1, .ref (a 0)), (2, .int (p)), (3, .int ((bmF r p n).1)), (4, .int (nI n))] → W pp l ee (rmN 6) ss mm ([.ref (t 0), .ref (a 0), .int (p)] : List Value).toArray bl mt cd H locs 0 0 (MQ bl (rxQi g (tW g t (c 0) sg bs bc p1 p2 p3 p4 p5 ++ (yW g c rg ++ (yW g a r ++ []))) (fun u9 : ({q : Nat → Int32 // Wf q}) => tW g t (c 0) sg (bmF r p 36).2 bc p1 p2 p3 p4 p5 ++ (yW g c u9.1 ++ (yW g a r ++ []))) (bmF r p 36).1) ([.ref (t 0), .ref (a 0), .int (p)] : List Value).toArray ss 0 0 (dm (tW g t (c 0) sg bs bc p1 p2 p3 p4 p5 ++ (yW g c rg ++ (yW g a r ++ []))))) (F0 mm 10 ls []) := by
    intro kk
    induction kk with
    | zero => intro n gx hmu; exact absurd hmu (Nat.not_lt_zero _)
    | succ kk ih10 =>
      intro n gx hmu hn H locs hP hD hS ls hl
      refine lv_iload hx hb dX6_bestMatch_10 (lv_at hl 4 rfl) ?_
      refine lv_bipush (v := 36) hx hb dX6_bestMatch_12 rfl ?_
      refine lv_icmp_ge (tgt := 127) hx hb dX6_bestMatch_14 (by decide) (fun c1 => ?_) (fun c1 => ?_)
      · skip
        have c1' := Int32.not_lt.mpr c1
        have hn9 : n = 36 := by have := lp_ge (by omega) c1; rw [show (36 : Int32).toInt = 36 from rfl] at this; omega
        subst hn9
        have hl : lv_has ls 8 [(0, .ref (t 0)), (1, .ref (a 0)), (2, .int (p)), (3, .int ((bmF r p 36).1))] := lv_sub hl [0, 1, 2, 3] rfl
        refine lv_iload_n hx hb dX6_bestMatch_127 rfl (lv_at hl 3 rfl) ?_
        exact ret_rxi (S := ({q : Nat → Int32 // Wf q})) gx hx hb hr hlk (by rfl) (hP) hS dX6_bestMatch_128
      · skip
        have c1' := Int32.not_le.mp c1
        have hn9 : n < 36 := by have := lp_lt (by omega) c1; rw [show (36 : Int32).toInt = 36 from rfl] at this; omega
        refine lv_iload hx hb dX6_bestMatch_17 (lv_at hl 4 rfl) ?_
        refine lv_bipush (v := 6) hx hb dX6_bestMatch_19 rfl ?_
        refine lv_idiv hx hb dX6_bestMatch_21 (by decide) ?_
        refine top_i (x := (nI n) / 6) (y := nI (n / 6)) (pk_div (d := 6) (by omega) (by omega) (by omega)) ?_
        refine lv_istore (lv' := [(5, .int (nI (n / 6))), (0, .ref (t 0)), (1, .ref (a 0)), (2, .int (p)), (3, .int ((bmF r p n).1)), (4, .int (nI n))]) hx hb dX6_bestMatch_22 hl (by decide) rfl (fun ls hl => ?_)
        refine lv_iload hx hb dX6_bestMatch_24 (lv_at hl 5 rfl) ?_
        refine lv_bipush (v := 6) hx hb dX6_bestMatch_26 rfl ?_
        refine lv_irem hx hb dX6_bestMatch_28 (by decide) ?_
        refine top_i (x := (nI n) - (nI n) / 6 * 6) (y := nI (n % 6)) (pk_rem (d := 6) (by omega) (by omega) (by omega)) ?_
        refine lv_istore (lv' := [(6, .int (nI (n % 6))), (5, .int (nI (n / 6))), (0, .ref (t 0)), (1, .ref (a 0)), (2, .int (p)), (3, .int ((bmF r p n).1)), (4, .int (nI n))]) hx hb dX6_bestMatch_29 hl (by decide) rfl (fun ls hl => ?_)
        refine lv_aload_n hx hb dX6_bestMatch_31 rfl (lv_at hl 3 rfl) ?_
        refine lv_iload hx hb dX6_bestMatch_32 (lv_at hl 1 rfl) ?_
        refine lv_iload_n hx hb dX6_bestMatch_34 rfl (lv_at hl 4 rfl) ?_
        refine ro_i (run_V (As := [.int (nI (n / 6)), .int (p)]) (rest := []) hC.1 ckX7_isWholeOf (kX7_isWholeOf l g a r (nI (n / 6)) p hw.n6) (gw_in m_732 rfl) (fb_ro _ _ _) (va_recv hK.1 (kP_app.mp (kP_app.mp (kP_app.mp hP).2).2).1 (q0 := 0) rfl rfl) (fun U hU hW => ⟨by rw [hU]; exact (kP_app.mp (kP_app.mp (kP_app.mp hP).2).2).1, kK_warm hW hK⟩) ⟨rfl, rfl, Nat.le_of_ble_eq_true rfl, Nat.le_of_ble_eq_true rfl⟩ rfl hl.1 rfl (Nat.le_of_ble_eq_true rfl) dX6_bestMatch_35 ⟨Nat.le_of_ble_eq_true rfl, Nat.le_of_ble_eq_true rfl⟩) ?_
        refine lv_if_eq (tgt := 121) hx hb dX6_bestMatch_38 (by decide) (fun c2 => ?_) (fun c2 => ?_)
        · skip
          have c2 := b2i_0 c2
          refine lv_iinc (v := nI (n + 1)) (lv' := [(4, .int (nI (n + 1))), (6, .int (nI (n % 6))), (5, .int (nI (n / 6))), (0, .ref (t 0)), (1, .ref (a 0)), (2, .int (p)), (3, .int ((bmF r p n).1))]) hx hb dX6_bestMatch_121 hl (k := 6) rfl (inc_nI n) (by decide) rfl (fun ls hl => ?_)
          refine lv_goto (tgt := 10) hx hb dX6_bestMatch_124 (by decide) ?_
          have e9 : bmF r p (n + 1) = bmF r p n := by simp only [bmF]; simp [c1, c1', c2]
          have hl : lv_has ls 8 [(4, .int (nI (n + 1))), (6, .int (nI (n % 6))), (5, .int (nI (n / 6))), (0, .ref (t 0)), (1, .ref (a 0)), (2, .int (p)), (3, .int ((bmF r p (n + 1)).1))] := by rw [e9]; exact hl
          have hP : kP g (tW g t (c 0) sg (bmF r p (n + 1)).2 bc p1 p2 p3 p4 p5 ++ (yW g c gx.1 ++ (yW g a r ++ []))) _ := kP_eq (by rw [e9]) hP
          have hD : va_D _ (tW g t (c 0) sg (bmF r p (n + 1)).2 bc p1 p2 p3 p4 p5 ++ (yW g c gx.1 ++ (yW g a r ++ []))) := vD_eq (by rw [e9]) hD
          exact ih10 (n + 1) gx (by omega) (by omega) _ _ hP hD hS _ (lv_sub hl [3, 4, 5, 6, 0] rfl)
        · skip
          have c2 := b2i_1 c2
          refine lv_aload_n hx hb dX6_bestMatch_41 rfl (lv_at hl 3 rfl) ?_
          refine lv_iload hx hb dX6_bestMatch_42 (lv_at hl 1 rfl) ?_
          refine lv_iload hx hb dX6_bestMatch_44 (lv_at hl 0 rfl) ?_
          refine ro_i (run_V (As := [.int (nI (n / 6)), .int (nI (n % 6))]) (rest := []) hC.1 ckX7_canStrike (kX7_canStrike l g a r (nI (n / 6)) (nI (n % 6)) hw.n6) (gw_in m_733 rfl) (fb_ro _ _ _) (va_recv hK.1 (kP_app.mp (kP_app.mp (kP_app.mp hP).2).2).1 (q0 := 0) rfl rfl) (fun U hU hW => ⟨by rw [hU]; exact (kP_app.mp (kP_app.mp (kP_app.mp hP).2).2).1, kK_warm hW hK⟩) ⟨rfl, rfl, Nat.le_of_ble_eq_true rfl, Nat.le_of_ble_eq_true rfl⟩ rfl hl.1 rfl (Nat.le_of_ble_eq_true rfl) dX6_bestMatch_46 ⟨Nat.le_of_ble_eq_true rfl, Nat.le_of_ble_eq_true rfl⟩) ?_
          refine lv_if_ne (tgt := 55) hx hb dX6_bestMatch_49 (by decide) (fun c3 => ?_) (fun c3 => ?_)
          · skip
            have c3 := b2i_1 c3
            refine lv_aload_n hx hb dX6_bestMatch_55 rfl (lv_at hl 2 rfl) ?_
            refine lv_aload_n hx hb dX6_bestMatch_56 rfl (lv_at hl 3 rfl) ?_
            refine lv_iload hx hb dX6_bestMatch_57 (lv_at hl 1 rfl) ?_
            refine lv_iload hx hb dX6_bestMatch_59 (lv_at hl 0 rfl) ?_
            refine lv_iconst (v := 1) hx hb dX6_bestMatch_61 rfl ?_
            refine rw_i (run_V (As := [.ref (a 0), .int (nI (n / 6)), .int (nI (n % 6)), .int (1)]) (rest := []) hC.1 ckX6_fightOn (kX6_fightOn l g t c sg (bmF r p n).2 bc p1 p2 p3 p4 p5 gx.1 a r (nI (n / 6)) (nI (n % 6)) true hw) (gw_in m_734 rfl) (fb_rw _ _ _) (va_recv hK.1 (kP_app.mp hP).1 (q0 := 0) rfl rfl) (fun U hU hW => ⟨by rw [hU]; exact (kP_app.mpr ⟨(kP_app.mp hP).1, (kP_app.mpr ⟨(kP_app.mp (kP_app.mp hP).2).1, (kP_app.mpr ⟨(kP_app.mp (kP_app.mp (kP_app.mp hP).2).2).1, kP_nil⟩)⟩)⟩), kK_warm hW hK, vD_sub (sbA _ (sbA _ (sbA _ (sb0 _)))) hD⟩) ⟨rfl, rfl, Nat.le_of_ble_eq_true rfl, Nat.le_of_ble_eq_true rfl⟩ rfl hl.1 rfl (Nat.le_of_ble_eq_true rfl) dX6_bestMatch_62 ⟨Nat.le_of_ble_eq_true rfl, Nat.le_of_ble_eq_true rfl⟩) (adr_app rfl (adr_app yW_adr (adr_app rfl rfl))) (asc3 _ _ _ _) (ww' := tW g t (c 0) sg (bmF r p n).2 bc p1 p2 p3 p4 p5 ++ (yW g c (fgt true (nI (n / 6)) (nI (n % 6)) 60 0 r).2 ++ (yW g a r ++ []))) (asc3 _ _ _ _) hP hD hS (fun H locs hP hD hS => ?_)
            refine lv_pop hx hb dX6_bestMatch_65 rfl ?_
            refine lv_aload_n hx hb dX6_bestMatch_66 rfl (lv_at hl 2 rfl) ?_
            refine kget hC.1 hK (kP_app.mp hP).1 0 rfl rfl in_6 0 (by decide) (gw_in m_241 rfl) rfl dX6_bestMatch_67 ?_
            refine lv_iload hx hb dX6_bestMatch_70 (lv_at hl 1 rfl) ?_
            refine lv_iconst (v := 5) hx hb dX6_bestMatch_72 rfl ?_
            refine ro_i (run_V (As := [.int (nI (n / 6)), .int (5)]) (rest := []) hC.1 ckX7_fact (kX7_fact l g c (fgt true (nI (n / 6)) (nI (n % 6)) 60 0 r).2 (nI (n / 6)) 5 (Wf_fgt hw)) (gw_in m_691 rfl) (fb_ro _ _ _) (va_recv hK.1 (kP_app.mp (kP_app.mp hP).2).1 (q0 := 0) rfl rfl) (fun U hU hW => ⟨by rw [hU]; exact (kP_app.mp (kP_app.mp hP).2).1, kK_warm hW hK⟩) ⟨rfl, rfl, Nat.le_of_ble_eq_true rfl, Nat.le_of_ble_eq_true rfl⟩ rfl hl.1 rfl (Nat.le_of_ble_eq_true rfl) dX6_bestMatch_73 ⟨Nat.le_of_ble_eq_true rfl, Nat.le_of_ble_eq_true rfl⟩) ?_
            refine lv_istore (lv' := [(7, .int (yFact (fgt true (nI (n / 6)) (nI (n % 6)) 60 0 r).2 (nI (n / 6)) 5)), (6, .int (nI (n % 6))), (5, .int (nI (n / 6))), (0, .ref (t 0)), (1, .ref (a 0)), (2, .int (p)), (3, .int ((bmF r p n).1)), (4, .int (nI n))]) hx hb dX6_bestMatch_76 hl (by decide) rfl (fun ls hl => ?_)
            refine lv_aload_n hx hb dX6_bestMatch_78 rfl (lv_at hl 3 rfl) ?_
            refine kget hC.1 hK (kP_app.mp hP).1 0 rfl rfl in_6 0 (by decide) (gw_in m_241 rfl) rfl dX6_bestMatch_79 ?_
            refine lv_iload hx hb dX6_bestMatch_82 (lv_at hl 2 rfl) ?_
            refine lv_iload hx hb dX6_bestMatch_84 (lv_at hl 1 rfl) ?_
            refine ro_i (run_V (As := [.int (nI (n / 6)), .int (nI (n % 6))]) (rest := []) hC.1 ckX7_leftOf (kX7_leftOf l g c (fgt true (nI (n / 6)) (nI (n % 6)) 60 0 r).2 (nI (n / 6)) (nI (n % 6)) (Wf_fgt hw).n6) (gw_in m_723 rfl) (fb_ro _ _ _) (va_recv hK.1 (kP_app.mp (kP_app.mp hP).2).1 (q0 := 0) rfl rfl) (fun U hU hW => ⟨by rw [hU]; exact (kP_app.mp (kP_app.mp hP).2).1, kK_warm hW hK⟩) ⟨rfl, rfl, Nat.le_of_ble_eq_true rfl, Nat.le_of_ble_eq_true rfl⟩ rfl hl.1 rfl (Nat.le_of_ble_eq_true rfl) dX6_bestMatch_86 ⟨Nat.le_of_ble_eq_true rfl, Nat.le_of_ble_eq_true rfl⟩) ?_
            refine lv_iload hx hb dX6_bestMatch_89 (lv_at hl 2 rfl) ?_
            refine lv_icmp_ne (tgt := 121) hx hb dX6_bestMatch_91 (by decide) (fun c4 => ?_) (fun c4 => ?_)
            · skip
              refine lv_iinc (v := nI (n + 1)) (lv' := [(4, .int (nI (n + 1))), (7, .int (yFact (fgt true (nI (n / 6)) (nI (n % 6)) 60 0 r).2 (nI (n / 6)) 5)), (6, .int (nI (n % 6))), (5, .int (nI (n / 6))), (0, .ref (t 0)), (1, .ref (a 0)), (2, .int (p)), (3, .int ((bmF r p n).1))]) hx hb dX6_bestMatch_121 hl (k := 7) rfl (inc_nI n) (by decide) rfl (fun ls hl => ?_)
              refine lv_goto (tgt := 10) hx hb dX6_bestMatch_124 (by decide) ?_
              have e9 : bmF r p (n + 1) = bmF r p n := by simp only [bmF]; simp [c1, c1', c2, c3, c4]
              have hl : lv_has ls 8 [(4, .int (nI (n + 1))), (7, .int (yFact (fgt true (nI (n / 6)) (nI (n % 6)) 60 0 r).2 (nI (n / 6)) 5)), (6, .int (nI (n % 6))), (5, .int (nI (n / 6))), (0, .ref (t 0)), (1, .ref (a 0)), (2, .int (p)), (3, .int ((bmF r p (n + 1)).1))] := by rw [e9]; exact hl
              have hP : kP g (tW g t (c 0) sg (bmF r p (n + 1)).2 bc p1 p2 p3 p4 p5 ++ (yW g c (fgt true (nI (n / 6)) (nI (n % 6)) 60 0 r).2 ++ (yW g a r ++ []))) _ := kP_eq (by rw [e9]) hP
              have hD : va_D _ (tW g t (c 0) sg (bmF r p (n + 1)).2 bc p1 p2 p3 p4 p5 ++ (yW g c (fgt true (nI (n / 6)) (nI (n % 6)) 60 0 r).2 ++ (yW g a r ++ []))) := vD_eq (by rw [e9]) hD
              exact ih10 (n + 1) (⟨(fgt true (nI (n / 6)) (nI (n % 6)) 60 0 r).2, Wf_fgt hw⟩) (by omega) (by omega) _ _ hP hD hS _ (lv_sub hl [4, 5, 6, 7, 0] rfl)
            · skip
              refine lv_iload hx hb dX6_bestMatch_94 (lv_at hl 0 rfl) ?_
              refine lv_aload_n hx hb dX6_bestMatch_96 rfl (lv_at hl 3 rfl) ?_
              refine kget hC.1 hK (kP_app.mp hP).1 0 rfl rfl in_6 1 (by decide) (gw_in m_243 rfl) rfl dX6_bestMatch_97 ?_
              refine lv_icmp_gt (tgt := 106) hx hb dX6_bestMatch_100 (by decide) (fun c5 => ?_) (fun c5 => ?_)
              · skip
                have c5' := Int32.not_le.mpr c5
                refine lv_bipush (v := 10) hx hb dX6_bestMatch_106 rfl ?_
                refine lv_iload hx hb dX6_bestMatch_108 (lv_at hl 2 rfl) ?_
                refine lv_imul hx hb dX6_bestMatch_110 ?_
                refine lv_iload hx hb dX6_bestMatch_111 (lv_at hl 1 rfl) ?_
                refine lv_iadd hx hb dX6_bestMatch_113 ?_
                refine lv_istore_n (lv' := [(3, .int ((10 * (nI (n / 6))) + (nI (n % 6)))), (7, .int (yFact (fgt true (nI (n / 6)) (nI (n % 6)) 60 0 r).2 (nI (n / 6)) 5)), (6, .int (nI (n % 6))), (5, .int (nI (n / 6))), (0, .ref (t 0)), (1, .ref (a 0)), (2, .int (p)), (4, .int (nI n))]) hx hb dX6_bestMatch_114 rfl hl (by decide) rfl (fun ls hl => ?_)
                refine lv_aload_n hx hb dX6_bestMatch_115 rfl (lv_at hl 4 rfl) ?_
                refine lv_iload hx hb dX6_bestMatch_116 (lv_at hl 1 rfl) ?_
                refine kput (B' := tW g t (c 0) sg (yFact (fgt true (nI (n / 6)) (nI (n % 6)) 60 0 r).2 (nI (n / 6)) 5) bc p1 p2 p3 p4 p5) hC.1 hK hP hD hS 0 rfl rfl in_6 tyX6 tyX6_ok nmX6 1 (by decide) (gw_in m_243 rfl) rfl (ty := .int) (by decide +kernel) rfl rfl (Nat.le_of_ble_eq_true rfl) (fun _ h => h) tW_adr dX6_bestMatch_118 (fun H locs hP hD hS => ?_)
                refine lv_iinc (v := nI (n + 1)) (lv' := [(4, .int (nI (n + 1))), (3, .int ((10 * (nI (n / 6))) + (nI (n % 6)))), (7, .int (yFact (fgt true (nI (n / 6)) (nI (n % 6)) 60 0 r).2 (nI (n / 6)) 5)), (6, .int (nI (n % 6))), (5, .int (nI (n / 6))), (0, .ref (t 0)), (1, .ref (a 0)), (2, .int (p))]) hx hb dX6_bestMatch_121 hl (k := 7) rfl (inc_nI n) (by decide) rfl (fun ls hl => ?_)
                refine lv_goto (tgt := 10) hx hb dX6_bestMatch_124 (by decide) ?_
                have e9 : bmF r p (n + 1) = ((10 * (nI (n / 6))) + (nI (n % 6)), yFact (fgt true (nI (n / 6)) (nI (n % 6)) 60 0 r).2 (nI (n / 6)) 5) := by simp only [bmF]; simp [c1, c1', c2, c3, c4, c5, c5']
                have hl : lv_has ls 8 [(4, .int (nI (n + 1))), (3, .int ((bmF r p (n + 1)).1)), (7, .int (yFact (fgt true (nI (n / 6)) (nI (n % 6)) 60 0 r).2 (nI (n / 6)) 5)), (6, .int (nI (n % 6))), (5, .int (nI (n / 6))), (0, .ref (t 0)), (1, .ref (a 0)), (2, .int (p))] := by rw [e9]; exact hl
                have hP : kP g (tW g t (c 0) sg (bmF r p (n + 1)).2 bc p1 p2 p3 p4 p5 ++ (yW g c (fgt true (nI (n / 6)) (nI (n % 6)) 60 0 r).2 ++ (yW g a r ++ []))) _ := kP_eq (by rw [e9]) hP
                have hD : va_D _ (tW g t (c 0) sg (bmF r p (n + 1)).2 bc p1 p2 p3 p4 p5 ++ (yW g c (fgt true (nI (n / 6)) (nI (n % 6)) 60 0 r).2 ++ (yW g a r ++ []))) := vD_eq (by rw [e9]) hD
                exact ih10 (n + 1) (⟨(fgt true (nI (n / 6)) (nI (n % 6)) 60 0 r).2, Wf_fgt hw⟩) (by omega) (by omega) _ _ hP hD hS _ (lv_sub hl [5, 6, 7, 1, 0] rfl)
              · skip
                have c5' := Int32.not_lt.mp c5
                refine lv_goto (tgt := 121) hx hb dX6_bestMatch_103 (by decide) ?_
                refine lv_iinc (v := nI (n + 1)) (lv' := [(4, .int (nI (n + 1))), (7, .int (yFact (fgt true (nI (n / 6)) (nI (n % 6)) 60 0 r).2 (nI (n / 6)) 5)), (6, .int (nI (n % 6))), (5, .int (nI (n / 6))), (0, .ref (t 0)), (1, .ref (a 0)), (2, .int (p)), (3, .int ((bmF r p n).1))]) hx hb dX6_bestMatch_121 hl (k := 7) rfl (inc_nI n) (by decide) rfl (fun ls hl => ?_)
                refine lv_goto (tgt := 10) hx hb dX6_bestMatch_124 (by decide) ?_
                have e9 : bmF r p (n + 1) = bmF r p n := by simp only [bmF]; simp [c1, c1', c2, c3, c4, c5, c5']
                have hl : lv_has ls 8 [(4, .int (nI (n + 1))), (7, .int (yFact (fgt true (nI (n / 6)) (nI (n % 6)) 60 0 r).2 (nI (n / 6)) 5)), (6, .int (nI (n % 6))), (5, .int (nI (n / 6))), (0, .ref (t 0)), (1, .ref (a 0)), (2, .int (p)), (3, .int ((bmF r p (n + 1)).1))] := by rw [e9]; exact hl
                have hP : kP g (tW g t (c 0) sg (bmF r p (n + 1)).2 bc p1 p2 p3 p4 p5 ++ (yW g c (fgt true (nI (n / 6)) (nI (n % 6)) 60 0 r).2 ++ (yW g a r ++ []))) _ := kP_eq (by rw [e9]) hP
                have hD : va_D _ (tW g t (c 0) sg (bmF r p (n + 1)).2 bc p1 p2 p3 p4 p5 ++ (yW g c (fgt true (nI (n / 6)) (nI (n % 6)) 60 0 r).2 ++ (yW g a r ++ []))) := vD_eq (by rw [e9]) hD
                exact ih10 (n + 1) (⟨(fgt true (nI (n / 6)) (nI (n % 6)) 60 0 r).2, Wf_fgt hw⟩) (by omega) (by omega) _ _ hP hD hS _ (lv_sub hl [4, 5, 6, 7, 0] rfl)
          · skip
            have c3 := b2i_0 c3
            refine lv_goto (tgt := 121) hx hb dX6_bestMatch_52 (by decide) ?_
            refine lv_iinc (v := nI (n + 1)) (lv' := [(4, .int (nI (n + 1))), (6, .int (nI (n % 6))), (5, .int (nI (n / 6))), (0, .ref (t 0)), (1, .ref (a 0)), (2, .int (p)), (3, .int ((bmF r p n).1))]) hx hb dX6_bestMatch_121 hl (k := 6) rfl (inc_nI n) (by decide) rfl (fun ls hl => ?_)
            refine lv_goto (tgt := 10) hx hb dX6_bestMatch_124 (by decide) ?_
            have e9 : bmF r p (n + 1) = bmF r p n := by simp only [bmF]; simp [c1, c1', c2, c3]
            have hl : lv_has ls 8 [(4, .int (nI (n + 1))), (6, .int (nI (n % 6))), (5, .int (nI (n / 6))), (0, .ref (t 0)), (1, .ref (a 0)), (2, .int (p)), (3, .int ((bmF r p (n + 1)).1))] := by rw [e9]; exact hl
            have hP : kP g (tW g t (c 0) sg (bmF r p (n + 1)).2 bc p1 p2 p3 p4 p5 ++ (yW g c gx.1 ++ (yW g a r ++ []))) _ := kP_eq (by rw [e9]) hP
            have hD : va_D _ (tW g t (c 0) sg (bmF r p (n + 1)).2 bc p1 p2 p3 p4 p5 ++ (yW g c gx.1 ++ (yW g a r ++ []))) := vD_eq (by rw [e9]) hD
            exact ih10 (n + 1) gx (by omega) (by omega) _ _ hP hD hS _ (lv_sub hl [3, 4, 5, 6, 0] rfl)
  exact cut10 _ 0 (⟨rg, hg⟩) (Nat.lt_succ_self _) (by omega) _ _ hP hD hS _ (lv_sub hl [2, 3, 4, 1, 0] rfl)
set_option maxHeartbeats 4000000 in
set_option maxRecDepth 100000 in
theorem kX6_waysToBreak_w (l : Launch) (g : gG) (t c : Nat → Nat) (sg : Nat → Nat) (bs bc : Int32) (p1 p2 p3 p4 p5 rg : Nat → Int32) (a : Nat → Nat) (r : Nat → Int32) (i j : Int32) (N : Nat) (d : Int32) (hw : Wf r) (hN : N ≤ 6) (hg : Wf rg) : Met l yX6_waysToBreak (.code yX6_waysToBreak cX6_waysToBreak 11 (some .long) :: gw) (rmN 5) (va_Pc [.ref (t 0), .ref (a 0), .int (i), .int (j), .int (nI N), .int (d)] (rwPre g (tW g t (c 0) sg bs bc p1 p2 p3 p4 p5 ++ (yW g c rg ++ (yW g a r ++ []))))) (rxQl g (tW g t (c 0) sg bs bc p1 p2 p3 p4 p5 ++ (yW g c rg ++ (yW g a r ++ []))) (fun u9 : ({q : Nat → Int32 // Wf q}) => tW g t (c 0) sg bs bc p1 p2 p3 p4 p5 ++ (yW g c u9.1 ++ (yW g a r ++ []))) (wbF r i j d N (2 ^ N))) 0 0 (dm (tW g t (c 0) sg bs bc p1 p2 p3 p4 p5 ++ (yW g c rg ++ (yW g a r ++ [])))) := by
  refine met_start (by decide) (Nat.le_of_ble_eq_true rfl) ?_
  intro pp ee ss mm bl mt cd hC hpre ls hl
  obtain ⟨⟨hx, hb, hml, hown, hts⟩, hr, hlk, hnm⟩ := id hC
  have hl : lv_has ls 11 [(0, .ref (t 0)), (1, .ref (a 0)), (2, .int (i)), (3, .int (j)), (4, .int (nI N)), (5, .int (d))] := hl
  obtain ⟨hP, hK, hD⟩ := hpre
  have hS : va_S (dm (tW g t (c 0) sg bs bc p1 p2 p3 p4 p5 ++ (yW g c rg ++ (yW g a r ++ [])))) ss.heap ss.heap [] := va_S.rf
  have hD := vD_self hD
  refine lv_lconst (v := 0) hx hb dX6_waysToBreak_0 rfl ?_
  refine lv_lstore (lv' := [(6, .long (0)), (0, .ref (t 0)), (1, .ref (a 0)), (2, .int (i)), (3, .int (j)), (4, .int (nI N)), (5, .int (d))]) hx hb dX6_waysToBreak_1 hl (by decide) rfl (fun ls hl => ?_)
  refine lv_iload hx hb dX6_waysToBreak_3 (lv_at hl 5 rfl) ?_
  refine lv_iconst (v := 0) hx hb dX6_waysToBreak_5 rfl ?_
  refine lv_bipush (v := 6) hx hb dX6_waysToBreak_6 rfl ?_
  refine ro_i (run_SN (As := [.int (nI N), .int (0), .int (6)]) (rest := []) hC.1 ckX8_within (kX8_within l (nI N) 0 6) (hK.2.2 _ _ _ _ m_690) (fb_nil _) (fun _ _ _ => trivial) ⟨rfl, rfl, Nat.le_of_ble_eq_true rfl, Nat.le_of_ble_eq_true rfl⟩ rfl hl.1 rfl (Nat.le_of_ble_eq_true rfl) dX6_waysToBreak_8 ⟨Nat.le_of_ble_eq_true rfl, Nat.le_of_ble_eq_true rfl⟩) ?_
  refine lv_if_ne (tgt := 17) hx hb dX6_waysToBreak_11 (by decide) (fun c1 => ?_) (fun c1 => ?_)
  · skip
    have c1 := b2i_1 c1
    refine lv_iconst (v := 0) hx hb dX6_waysToBreak_17 rfl ?_
    refine lv_istore (lv' := [(8, .int (0)), (6, .long (0)), (0, .ref (t 0)), (1, .ref (a 0)), (2, .int (i)), (3, .int (j)), (4, .int (nI N)), (5, .int (d))]) hx hb dX6_waysToBreak_18 hl (by decide) rfl (fun ls hl => ?_)
    have cut20 : ∀ kk : Nat, ∀ (n : Nat) (gx : {q : Nat → Int32 // Wf q}), 2 ^ N + 1 - n < kk → (hn : n ≤ 2 ^ N) → ∀ (H : Heap) (locs : List Loc), kP g (tW g t (c 0) sg bs bc p1 p2 p3 p4 p5 ++ (yW g c gx.1 ++ (yW g a r ++ []))) H → va_D (dm (tW g t (c 0) sg bs bc p1 p2 p3 p4 p5 ++ (yW g c rg ++ (yW g a r ++ [])))) (tW g t (c 0) sg bs bc p1 p2 p3 p4 p5 ++ (yW g c gx.1 ++ (yW g a r ++ []))) → va_S (dm (tW g t (c 0) sg bs bc p1 p2 p3 p4 p5 ++ (yW g c rg ++ (yW g a r ++ [])))) ss.heap H locs → ∀ (ls : Array Slot), lv_has ls 11 [(0, .ref (t 0)), (1, .ref (a 0)), (2, .int (i)), (3, .int (j)), (4, .int (nI N)), (5, .int (d)), (6, .long (wbF r i j d N n)), (8, .int (nI n))] → W pp l ee (rmN 5) ss mm ([.ref (t 0), .ref (a 0), .int (i), .int (j), .int (nI N), .int (d)] : List Value).toArray bl mt cd H locs 0 0 (MQ bl (rxQl g (tW g t (c 0) sg bs bc p1 p2 p3 p4 p5 ++ (yW g c rg ++ (yW g a r ++ []))) (fun u9 : ({q : Nat → Int32 // Wf q}) => tW g t (c 0) sg bs bc p1 p2 p3 p4 p5 ++ (yW g c u9.1 ++ (yW g a r ++ []))) (wbF r i j d N (2 ^ N))) ([.ref (t 0), .ref (a 0), .int (i), .int (j), .int (nI N), .int (d)] : List Value).toArray ss 0 0 (dm (tW g t (c 0) sg bs bc p1 p2 p3 p4 p5 ++ (yW g c rg ++ (yW g a r ++ []))))) (F0 mm 20 ls []) := by
      intro kk
      induction kk with
      | zero => intro n gx hmu; exact absurd hmu (Nat.not_lt_zero _)
      | succ kk ih20 =>
        intro n gx hmu hn H locs hP hD hS ls hl
        have h64 := pw64 hN
        refine lv_iload hx hb dX6_waysToBreak_20 (lv_at hl 7 rfl) ?_
        refine lv_iconst (v := 1) hx hb dX6_waysToBreak_22 rfl ?_
        refine lv_iload hx hb dX6_waysToBreak_23 (lv_at hl 4 rfl) ?_
        refine lv_ishl hx hb dX6_waysToBreak_25 ?_
        refine top_i (x := 1 <<< ((nI N) &&& 31)) (y := nI (2 ^ N)) (shl1 hN) ?_
        refine lv_icmp_ge (tgt := 86) hx hb dX6_waysToBreak_26 (by decide) (fun c2 => ?_) (fun c2 => ?_)
        · skip
          have c2' := Int32.not_lt.mpr c2
          have hn9 : n = 2 ^ N := by rw [nI_leI (by omega) (by omega)] at c2; omega
          subst hn9
          refine lv_lload hx hb dX6_waysToBreak_86 (lv_at hl 6 rfl) ?_
          exact ret_rxl (S := ({q : Nat → Int32 // Wf q})) gx hx hb hr hlk (by rfl) (hP) hS dX6_waysToBreak_88
        · skip
          have c2' := Int32.not_le.mp c2
          have hn9 : n < 2 ^ N := by rw [nI_leI (by omega) (by omega)] at c2; omega
          refine lv_aload_n hx hb dX6_waysToBreak_29 rfl (lv_at hl 0 rfl) ?_
          refine kget hC.1 hK (kP_app.mp hP).1 0 rfl rfl in_6 0 (by decide) (gw_in m_241 rfl) rfl dX6_waysToBreak_30 ?_
          refine lv_aload_n hx hb dX6_waysToBreak_33 rfl (lv_at hl 1 rfl) ?_
          have hP : kP g (yW g c gx.1 ++ (yW g a r ++ (tW g t (c 0) sg bs bc p1 p2 p3 p4 p5 ++ []))) _ := kP_perm ((pm_swap _ _ _).trans (pmA _ (pm_swap _ _ _))) hP
          have hD : va_D _ (yW g c gx.1 ++ (yW g a r ++ (tW g t (c 0) sg bs bc p1 p2 p3 p4 p5 ++ []))) := vD_perm ((pm_swap _ _ _).trans (pmA _ (pm_swap _ _ _))) hD
          refine rw_v (run_V (As := [.ref (a 0)]) (rest := []) hC.1 ckX7_copyOf (kX7_copyOf l g c a gx.1 r) (gw_in m_647 rfl) (fb_rw _ _ _) (va_recv hK.1 (kP_app.mp hP).1 (q0 := 0) rfl rfl) (fun U hU hW => ⟨by rw [hU]; exact (kP_app.mpr ⟨(kP_app.mp hP).1, (kP_app.mpr ⟨(kP_app.mp (kP_app.mp hP).2).1, kP_nil⟩)⟩), kK_warm hW hK, vD_sub (sbA _ (sbA _ (sb0 _))) hD⟩) ⟨rfl, rfl, Nat.le_of_ble_eq_true rfl, Nat.le_of_ble_eq_true rfl⟩ rfl hl.1 rfl (Nat.le_of_ble_eq_true rfl) dX6_waysToBreak_34 ⟨Nat.le_of_ble_eq_true rfl, Nat.le_of_ble_eq_true rfl⟩) (adr_app yW_adr (adr_app rfl rfl)) (asc2 _ _ _) (ww' := yW g c r ++ (yW g a r ++ (tW g t (c 0) sg bs bc p1 p2 p3 p4 p5 ++ []))) (asc2 _ _ _) hP hD hS (fun H locs hP hD hS => ?_)
          refine lv_aload_n hx hb dX6_waysToBreak_37 rfl (lv_at hl 0 rfl) ?_
          refine lv_iload_n hx hb dX6_waysToBreak_38 rfl (lv_at hl 2 rfl) ?_
          refine lv_iload_n hx hb dX6_waysToBreak_39 rfl (lv_at hl 3 rfl) ?_
          refine lv_iload hx hb dX6_waysToBreak_40 (lv_at hl 4 rfl) ?_
          refine lv_iload hx hb dX6_waysToBreak_42 (lv_at hl 5 rfl) ?_
          refine lv_iload hx hb dX6_waysToBreak_44 (lv_at hl 7 rfl) ?_
          have hP : kP g (tW g t (c 0) sg bs bc p1 p2 p3 p4 p5 ++ (yW g c r ++ (yW g a r ++ []))) _ := kP_perm ((pmA _ (pm_swap _ _ _)).trans (pm_swap _ _ _)) hP
          have hD : va_D _ (tW g t (c 0) sg bs bc p1 p2 p3 p4 p5 ++ (yW g c r ++ (yW g a r ++ []))) := vD_perm ((pmA _ (pm_swap _ _ _)).trans (pm_swap _ _ _)) hD
          refine rw_l (run_V (As := [.int (i), .int (j), .int (nI N), .int (d), .int (nI n)]) (rest := []) hC.1 ckX6_strikeWithMisses (kX6_strikeWithMisses l g t c sg bs bc p1 p2 p3 p4 p5 r i j N d (nI n) hw hN) (gw_in m_860 rfl) (fb_rw _ _ _) (va_recv hK.1 (kP_app.mp hP).1 (q0 := 0) rfl rfl) (fun U hU hW => ⟨by rw [hU]; exact (kP_app.mpr ⟨(kP_app.mp hP).1, (kP_app.mpr ⟨(kP_app.mp (kP_app.mp hP).2).1, kP_nil⟩)⟩), kK_warm hW hK, vD_sub (sbA _ (sbA _ (sb0 _))) hD⟩) ⟨rfl, rfl, Nat.le_of_ble_eq_true rfl, Nat.le_of_ble_eq_true rfl⟩ rfl hl.1 rfl (Nat.le_of_ble_eq_true rfl) dX6_waysToBreak_46 ⟨Nat.le_of_ble_eq_true rfl, Nat.le_of_ble_eq_true rfl⟩) (adr_app rfl (adr_app yW_adr rfl)) (asc2 _ _ _) (ww' := tW g t (c 0) sg bs bc p1 p2 p3 p4 p5 ++ (yW g c (swF r i j d (nI n) N).2 ++ (yW g a r ++ []))) (asc2 _ _ _) hP hD hS (fun H locs hP hD hS => ?_)
          refine lv_lstore (lv' := [(9, .long ((swF r i j d (nI n) N).1)), (0, .ref (t 0)), (1, .ref (a 0)), (2, .int (i)), (3, .int (j)), (4, .int (nI N)), (5, .int (d)), (6, .long (wbF r i j d N n)), (8, .int (nI n))]) hx hb dX6_waysToBreak_49 hl (by decide) rfl (fun ls hl => ?_)
          refine lv_aload_n hx hb dX6_waysToBreak_51 rfl (lv_at hl 1 rfl) ?_
          refine kget hC.1 hK (kP_app.mp hP).1 0 rfl rfl in_6 0 (by decide) (gw_in m_241 rfl) rfl dX6_waysToBreak_52 ?_
          refine lv_iload_n hx hb dX6_waysToBreak_55 rfl (lv_at hl 4 rfl) ?_
          refine ro_i (run_V (As := [.int (j)]) (rest := []) hC.1 ckX7_isBroken (kX7_isBroken l g c (swF r i j d (nI n) N).2 j (Wf_swF hw N).n6) (gw_in m_652 rfl) (fb_ro _ _ _) (va_recv hK.1 (kP_app.mp (kP_app.mp hP).2).1 (q0 := 0) rfl rfl) (fun U hU hW => ⟨by rw [hU]; exact (kP_app.mp (kP_app.mp hP).2).1, kK_warm hW hK⟩) ⟨rfl, rfl, Nat.le_of_ble_eq_true rfl, Nat.le_of_ble_eq_true rfl⟩ rfl hl.1 rfl (Nat.le_of_ble_eq_true rfl) dX6_waysToBreak_56 ⟨Nat.le_of_ble_eq_true rfl, Nat.le_of_ble_eq_true rfl⟩) ?_
          refine lv_if_eq (tgt := 80) hx hb dX6_waysToBreak_59 (by decide) (fun c3 => ?_) (fun c3 => ?_)
          · skip
            have c3 := b2i_0 c3
            refine lv_iinc (v := nI (n + 1)) (lv' := [(8, .int (nI (n + 1))), (9, .long ((swF r i j d (nI n) N).1)), (0, .ref (t 0)), (1, .ref (a 0)), (2, .int (i)), (3, .int (j)), (4, .int (nI N)), (5, .int (d)), (6, .long (wbF r i j d N n))]) hx hb dX6_waysToBreak_80 hl (k := 8) rfl (inc_nI n) (by decide) rfl (fun ls hl => ?_)
            refine lv_goto (tgt := 20) hx hb dX6_waysToBreak_83 (by decide) ?_
            have e9 : wbF r i j d N (n + 1) = wbF r i j d N n := by simp only [wbF]; simp [hn, c2, c2', c3]
            have hl : lv_has ls 11 [(8, .int (nI (n + 1))), (9, .long ((swF r i j d (nI n) N).1)), (0, .ref (t 0)), (1, .ref (a 0)), (2, .int (i)), (3, .int (j)), (4, .int (nI N)), (5, .int (d)), (6, .long (wbF r i j d N (n + 1)))] := by rw [e9]; exact hl
            exact ih20 (n + 1) (⟨(swF r i j d (nI n) N).2, Wf_swF hw _⟩) (by omega) (by omega) _ _ hP hD hS _ (lv_sub hl [2, 3, 4, 5, 6, 7, 8, 0] rfl)
          · skip
            have c3 := b2i_1 c3
            refine lv_aload_n hx hb dX6_waysToBreak_62 rfl (lv_at hl 1 rfl) ?_
            refine kget hC.1 hK (kP_app.mp hP).1 0 rfl rfl in_6 0 (by decide) (gw_in m_241 rfl) rfl dX6_waysToBreak_63 ?_
            refine lv_iload_n hx hb dX6_waysToBreak_66 rfl (lv_at hl 3 rfl) ?_
            refine ro_i (run_V (As := [.int (i)]) (rest := []) hC.1 ckX7_isWhole (kX7_isWhole l g c (swF r i j d (nI n) N).2 i (Wf_swF hw N).n6) (gw_in m_865 rfl) (fb_ro _ _ _) (va_recv hK.1 (kP_app.mp (kP_app.mp hP).2).1 (q0 := 0) rfl rfl) (fun U hU hW => ⟨by rw [hU]; exact (kP_app.mp (kP_app.mp hP).2).1, kK_warm hW hK⟩) ⟨rfl, rfl, Nat.le_of_ble_eq_true rfl, Nat.le_of_ble_eq_true rfl⟩ rfl hl.1 rfl (Nat.le_of_ble_eq_true rfl) dX6_waysToBreak_67 ⟨Nat.le_of_ble_eq_true rfl, Nat.le_of_ble_eq_true rfl⟩) ?_
            refine lv_if_eq (tgt := 80) hx hb dX6_waysToBreak_70 (by decide) (fun c4 => ?_) (fun c4 => ?_)
            · skip
              have c4 := b2i_0 c4
              refine lv_iinc (v := nI (n + 1)) (lv' := [(8, .int (nI (n + 1))), (9, .long ((swF r i j d (nI n) N).1)), (0, .ref (t 0)), (1, .ref (a 0)), (2, .int (i)), (3, .int (j)), (4, .int (nI N)), (5, .int (d)), (6, .long (wbF r i j d N n))]) hx hb dX6_waysToBreak_80 hl (k := 8) rfl (inc_nI n) (by decide) rfl (fun ls hl => ?_)
              refine lv_goto (tgt := 20) hx hb dX6_waysToBreak_83 (by decide) ?_
              have e9 : wbF r i j d N (n + 1) = wbF r i j d N n := by simp only [wbF]; simp [hn, c2, c2', c3, c4]
              have hl : lv_has ls 11 [(8, .int (nI (n + 1))), (9, .long ((swF r i j d (nI n) N).1)), (0, .ref (t 0)), (1, .ref (a 0)), (2, .int (i)), (3, .int (j)), (4, .int (nI N)), (5, .int (d)), (6, .long (wbF r i j d N (n + 1)))] := by rw [e9]; exact hl
              exact ih20 (n + 1) (⟨(swF r i j d (nI n) N).2, Wf_swF hw _⟩) (by omega) (by omega) _ _ hP hD hS _ (lv_sub hl [2, 3, 4, 5, 6, 7, 8, 0] rfl)
            · skip
              have c4 := b2i_1 c4
              refine lv_lload hx hb dX6_waysToBreak_73 (lv_at hl 7 rfl) ?_
              refine lv_lload hx hb dX6_waysToBreak_75 (lv_at hl 0 rfl) ?_
              refine lv_ladd hx hb dX6_waysToBreak_77 ?_
              refine lv_lstore (lv' := [(6, .long ((wbF r i j d N n) + (swF r i j d (nI n) N).1)), (9, .long ((swF r i j d (nI n) N).1)), (0, .ref (t 0)), (1, .ref (a 0)), (2, .int (i)), (3, .int (j)), (4, .int (nI N)), (5, .int (d)), (8, .int (nI n))]) hx hb dX6_waysToBreak_78 hl (by decide) rfl (fun ls hl => ?_)
              refine lv_iinc (v := nI (n + 1)) (lv' := [(8, .int (nI (n + 1))), (6, .long ((wbF r i j d N n) + (swF r i j d (nI n) N).1)), (9, .long ((swF r i j d (nI n) N).1)), (0, .ref (t 0)), (1, .ref (a 0)), (2, .int (i)), (3, .int (j)), (4, .int (nI N)), (5, .int (d))]) hx hb dX6_waysToBreak_80 hl (k := 8) rfl (inc_nI n) (by decide) rfl (fun ls hl => ?_)
              refine lv_goto (tgt := 20) hx hb dX6_waysToBreak_83 (by decide) ?_
              have e9 : wbF r i j d N (n + 1) = (wbF r i j d N n) + (swF r i j d (nI n) N).1 := by simp only [wbF]; simp [hn, c2, c2', c3, c4]
              have hl : lv_has ls 11 [(8, .int (nI (n + 1))), (6, .long (wbF r i j d N (n + 1))), (9, .long ((swF r i j d (nI n) N).1)), (0, .ref (t 0)), (1, .ref (a 0)), (2, .int (i)), (3, .int (j)), (4, .int (nI N)), (5, .int (d))] := by rw [e9]; exact hl
              exact ih20 (n + 1) (⟨(swF r i j d (nI n) N).2, Wf_swF hw _⟩) (by omega) (by omega) _ _ hP hD hS _ (lv_sub hl [3, 4, 5, 6, 7, 8, 1, 0] rfl)
    exact cut20 _ 0 (⟨rg, hg⟩) (Nat.lt_succ_self _) (Nat.zero_le _) _ _ hP hD hS _ (lv_sub hl [2, 3, 4, 5, 6, 7, 1, 0] rfl)
  · skip
    have c1 := b2i_0 c1
    exact absurd (show wth (nI N) 0 6 = true from wth_nI (m := 6) hN) (by rw [c1]; decide)
set_option maxHeartbeats 4000000 in
set_option maxRecDepth 100000 in
theorem kX6_findResting_w (l : Launch) (g : gG) (t c : Nat → Nat) (sg : Nat → Nat) (bs bc : Int32) (p1 p2 p3 p4 p5 rg : Nat → Int32) (a : Nat → Nat) (r : Nat → Int32) (p q : Int32) (hw : Wf r) (hg : Wf rg) : Met l yX6_findResting (.code yX6_findResting cX6_findResting 6 (some .int) :: gw) (rmN 6) (va_Pc [.ref (t 0), .ref (a 0), .int (p), .int (q)] (rwPre g (tW g t (c 0) sg bs bc p1 p2 p3 p4 p5 ++ (yW g c rg ++ (yW g a r ++ []))))) (rxQi g (tW g t (c 0) sg bs bc p1 p2 p3 p4 p5 ++ (yW g c rg ++ (yW g a r ++ []))) (fun u9 : ({q : Nat → Int32 // Wf q}) => tW g t (c 0) sg bs bc p1 p2 (g1F r p q p3 36) (g2F r p q p4 36) (rpF r p q (g1F r p q p3 36) (g2F r p q p4 36) p5 36) ++ (yW g c u9.1 ++ (yW g a r ++ []))) (nI (rkF r p q (g1F r p q p3 36) (g2F r p q p4 36) 36))) 0 0 (dm (tW g t (c 0) sg bs bc p1 p2 p3 p4 p5 ++ (yW g c rg ++ (yW g a r ++ [])))) := by
  refine met_start (by decide) (Nat.le_of_ble_eq_true rfl) ?_
  intro pp ee ss mm bl mt cd hC hpre ls hl
  obtain ⟨⟨hx, hb, hml, hown, hts⟩, hr, hlk, hnm⟩ := id hC
  have hl : lv_has ls 6 [(0, .ref (t 0)), (1, .ref (a 0)), (2, .int (p)), (3, .int (q))] := hl
  obtain ⟨hP, hK, hD⟩ := hpre
  have hS : va_S (dm (tW g t (c 0) sg bs bc p1 p2 p3 p4 p5 ++ (yW g c rg ++ (yW g a r ++ [])))) ss.heap ss.heap [] := va_S.rf
  have hD := vD_self hD
  refine lv_iconst (v := 0) hx hb dX6_findResting_0 rfl ?_
  refine lv_istore (lv' := [(4, .int (0)), (0, .ref (t 0)), (1, .ref (a 0)), (2, .int (p)), (3, .int (q))]) hx hb dX6_findResting_1 hl (by decide) rfl (fun ls hl => ?_)
  have cut3 : ∀ kk : Nat, ∀ (n : Nat) (gx : {q : Nat → Int32 // Wf q}), 37 - n < kk → (hn : n ≤ 36) → ∀ (H : Heap) (locs : List Loc), kP g (tW g t (c 0) sg bs bc p1 p2 (g1F r p q p3 n) (g2F r p q p4 n) p5 ++ (yW g c gx.1 ++ (yW g a r ++ []))) H → va_D (dm (tW g t (c 0) sg bs bc p1 p2 p3 p4 p5 ++ (yW g c rg ++ (yW g a r ++ [])))) (tW g t (c 0) sg bs bc p1 p2 (g1F r p q p3 n) (g2F r p q p4 n) p5 ++ (yW g c gx.1 ++ (yW g a r ++ []))) → va_S (dm (tW g t (c 0) sg bs bc p1 p2 p3 p4 p5 ++ (yW g c rg ++ (yW g a r ++ [])))) ss.heap H locs → ∀ (ls : Array Slot), lv_has ls 6 [(0, .ref (t 0)), (1, .ref (a 0)), (2, .int (p)), (3, .int (q)), (4, .int (nI n))] → W pp l ee (rmN 6) ss mm ([.ref (t 0), .ref (a 0), .int (p), .int (q)] : List Value).toArray bl mt cd H locs 0 0 (MQ bl (rxQi g (tW g t (c 0) sg bs bc p1 p2 p3 p4 p5 ++ (yW g c rg ++ (yW g a r ++ []))) (fun u9 : ({q : Nat → Int32 // Wf q}) => tW g t (c 0) sg bs bc p1 p2 (g1F r p q p3 36) (g2F r p q p4 36) (rpF r p q (g1F r p q p3 36) (g2F r p q p4 36) p5 36) ++ (yW g c u9.1 ++ (yW g a r ++ []))) (nI (rkF r p q (g1F r p q p3 36) (g2F r p q p4 36) 36))) ([.ref (t 0), .ref (a 0), .int (p), .int (q)] : List Value).toArray ss 0 0 (dm (tW g t (c 0) sg bs bc p1 p2 p3 p4 p5 ++ (yW g c rg ++ (yW g a r ++ []))))) (F0 mm 3 ls []) := by
    intro kk
    induction kk with
    | zero => intro n gx hmu; exact absurd hmu (Nat.not_lt_zero _)
    | succ kk ih3 =>
      intro n gx hmu hn H locs hP hD hS ls hl
      refine lv_iload hx hb dX6_findResting_3 (lv_at hl 4 rfl) ?_
      refine lv_bipush (v := 36) hx hb dX6_findResting_5 rfl ?_
      refine lv_icmp_ge (tgt := 34) hx hb dX6_findResting_7 (by decide) (fun c1 => ?_) (fun c1 => ?_)
      · skip
        have c1' := Int32.not_lt.mpr c1
        have hn9 : n = 36 := by have := lp_ge (by omega) c1; rw [show (36 : Int32).toInt = 36 from rfl] at this; omega
        subst hn9
        refine lv_iconst (v := 0) hx hb dX6_findResting_34 rfl ?_
        refine lv_istore (lv' := [(4, .int (0)), (0, .ref (t 0)), (1, .ref (a 0)), (2, .int (p)), (3, .int (q))]) hx hb dX6_findResting_35 hl (by decide) rfl (fun ls hl => ?_)
        refine lv_iconst (v := 0) hx hb dX6_findResting_37 rfl ?_
        refine lv_istore (lv' := [(5, .int (0)), (4, .int (0)), (0, .ref (t 0)), (1, .ref (a 0)), (2, .int (p)), (3, .int (q))]) hx hb dX6_findResting_38 hl (by decide) rfl (fun ls hl => ?_)
        have cut40 : ∀ kk : Nat, ∀ (n : Nat), 37 - n < kk → (hn : n ≤ 36) → ∀ (H : Heap) (locs : List Loc), kP g (tW g t (c 0) sg bs bc p1 p2 (g1F r p q p3 36) (g2F r p q p4 36) (rpF r p q (g1F r p q p3 36) (g2F r p q p4 36) p5 n) ++ (yW g c gx.1 ++ (yW g a r ++ []))) H → va_D (dm (tW g t (c 0) sg bs bc p1 p2 p3 p4 p5 ++ (yW g c rg ++ (yW g a r ++ [])))) (tW g t (c 0) sg bs bc p1 p2 (g1F r p q p3 36) (g2F r p q p4 36) (rpF r p q (g1F r p q p3 36) (g2F r p q p4 36) p5 n) ++ (yW g c gx.1 ++ (yW g a r ++ []))) → va_S (dm (tW g t (c 0) sg bs bc p1 p2 p3 p4 p5 ++ (yW g c rg ++ (yW g a r ++ [])))) ss.heap H locs → ∀ (ls : Array Slot), lv_has ls 6 [(0, .ref (t 0)), (1, .ref (a 0)), (2, .int (p)), (3, .int (q)), (4, .int (nI (rkF r p q (g1F r p q p3 36) (g2F r p q p4 36) n))), (5, .int (nI n))] → W pp l ee (rmN 6) ss mm ([.ref (t 0), .ref (a 0), .int (p), .int (q)] : List Value).toArray bl mt cd H locs 0 0 (MQ bl (rxQi g (tW g t (c 0) sg bs bc p1 p2 p3 p4 p5 ++ (yW g c rg ++ (yW g a r ++ []))) (fun u9 : ({q : Nat → Int32 // Wf q}) => tW g t (c 0) sg bs bc p1 p2 (g1F r p q p3 36) (g2F r p q p4 36) (rpF r p q (g1F r p q p3 36) (g2F r p q p4 36) p5 36) ++ (yW g c u9.1 ++ (yW g a r ++ []))) (nI (rkF r p q (g1F r p q p3 36) (g2F r p q p4 36) 36))) ([.ref (t 0), .ref (a 0), .int (p), .int (q)] : List Value).toArray ss 0 0 (dm (tW g t (c 0) sg bs bc p1 p2 p3 p4 p5 ++ (yW g c rg ++ (yW g a r ++ []))))) (F0 mm 40 ls []) := by
          intro kk
          induction kk with
          | zero => intro n hmu; exact absurd hmu (Nat.not_lt_zero _)
          | succ kk ih40 =>
            intro n hmu hn H locs hP hD hS ls hl
            have hrk := rk_le (r := r) (p := p) (q := q) (P := g1F r p q p3 36) (Q := g2F r p q p4 36) n
            refine lv_iload hx hb dX6_findResting_40 (lv_at hl 5 rfl) ?_
            refine lv_bipush (v := 36) hx hb dX6_findResting_42 rfl ?_
            refine lv_icmp_ge (tgt := 110) hx hb dX6_findResting_44 (by decide) (fun c2 => ?_) (fun c2 => ?_)
            · skip
              have c2' := Int32.not_lt.mpr c2
              have hn9 : n = 36 := by have := lp_ge (by omega) c2; rw [show (36 : Int32).toInt = 36 from rfl] at this; omega
              subst hn9
              refine lv_iload hx hb dX6_findResting_110 (lv_at hl 4 rfl) ?_
              exact ret_rxi (S := ({q : Nat → Int32 // Wf q})) gx hx hb hr hlk (by rfl) (hP) hS dX6_findResting_112
            · skip
              have c2' := Int32.not_le.mp c2
              have hn9 : n < 36 := by have := lp_lt (by omega) c2; rw [show (36 : Int32).toInt = 36 from rfl] at this; omega
              refine lv_aload_n hx hb dX6_findResting_47 rfl (lv_at hl 1 rfl) ?_
              refine lv_iload_n hx hb dX6_findResting_48 rfl (lv_at hl 2 rfl) ?_
              refine lv_iload_n hx hb dX6_findResting_49 rfl (lv_at hl 3 rfl) ?_
              refine lv_iload hx hb dX6_findResting_50 (lv_at hl 5 rfl) ?_
              refine ro_i (run_S (As := [.ref (a 0), .int (p), .int (q), .int (nI n)]) (rest := []) hC.1 ckX6_isChoice (kX6_isChoice l g a r p q n hw hn9) (gw_in m_833 rfl) (fb_ro _ _ _) (fun U hU hW => ⟨by rw [hU]; exact (kP_app.mp (kP_app.mp (kP_app.mp hP).2).2).1, kK_warm hW hK⟩) ⟨rfl, rfl, Nat.le_of_ble_eq_true rfl, Nat.le_of_ble_eq_true rfl⟩ rfl hl.1 rfl (Nat.le_of_ble_eq_true rfl) dX6_findResting_52 ⟨Nat.le_of_ble_eq_true rfl, Nat.le_of_ble_eq_true rfl⟩) ?_
              refine lv_if_eq (tgt := 104) hx hb dX6_findResting_55 (by decide) (fun c3 => ?_) (fun c3 => ?_)
              · skip
                have c3 := b2i_0 c3
                refine lv_iinc (v := nI (n + 1)) (lv' := [(5, .int (nI (n + 1))), (0, .ref (t 0)), (1, .ref (a 0)), (2, .int (p)), (3, .int (q)), (4, .int (nI (rkF r p q (g1F r p q p3 36) (g2F r p q p4 36) n)))]) hx hb dX6_findResting_104 hl (k := 5) rfl (inc_nI n) (by decide) rfl (fun ls hl => ?_)
                refine lv_goto (tgt := 40) hx hb dX6_findResting_107 (by decide) ?_
                have e9 : rkF r p q (g1F r p q p3 36) (g2F r p q p4 36) (n + 1) = rkF r p q (g1F r p q p3 36) (g2F r p q p4 36) n ∧ rpF r p q (g1F r p q p3 36) (g2F r p q p4 36) p5 (n + 1) = rpF r p q (g1F r p q p3 36) (g2F r p q p4 36) p5 n := ⟨rk_f (Or.inl c3), rp_f (Or.inl c3)⟩
                have hl : lv_has ls 6 [(5, .int (nI (n + 1))), (0, .ref (t 0)), (1, .ref (a 0)), (2, .int (p)), (3, .int (q)), (4, .int (nI (rkF r p q (g1F r p q p3 36) (g2F r p q p4 36) (n + 1))))] := by simp only [e9.1, e9.2]; exact hl
                have hP : kP g (tW g t (c 0) sg bs bc p1 p2 (g1F r p q p3 36) (g2F r p q p4 36) (rpF r p q (g1F r p q p3 36) (g2F r p q p4 36) p5 (n + 1)) ++ (yW g c gx.1 ++ (yW g a r ++ []))) _ := kP_eq (by simp only [e9.1, e9.2]) hP
                have hD : va_D _ (tW g t (c 0) sg bs bc p1 p2 (g1F r p q p3 36) (g2F r p q p4 36) (rpF r p q (g1F r p q p3 36) (g2F r p q p4 36) p5 (n + 1)) ++ (yW g c gx.1 ++ (yW g a r ++ []))) := vD_eq (by simp only [e9.1, e9.2]) hD
                exact ih40 (n + 1) (by omega) (by omega) _ _ hP hD hS _ (lv_sub hl [1, 2, 3, 4, 5, 0] rfl)
              · skip
                have c3 := b2i_1 c3
                refine lv_aload_n hx hb dX6_findResting_58 rfl (lv_at hl 0 rfl) ?_
                refine lv_aload_n hx hb dX6_findResting_59 rfl (lv_at hl 1 rfl) ?_
                refine lv_iload_n hx hb dX6_findResting_60 rfl (lv_at hl 2 rfl) ?_
                refine lv_iload_n hx hb dX6_findResting_61 rfl (lv_at hl 3 rfl) ?_
                refine lv_iload hx hb dX6_findResting_62 (lv_at hl 5 rfl) ?_
                refine ro_i (run_V (As := [.ref (a 0), .int (p), .int (q), .int (nI n)]) (rest := []) hC.1 ckX6_rests (kX6_rests l g t c sg bs bc p1 p2 (g1F r p q p3 36) (g2F r p q p4 36) (rpF r p q (g1F r p q p3 36) (g2F r p q p4 36) p5 n) gx.1 a r p q n hw hn9) (gw_in m_844 rfl) (fb_ro _ _ _) (va_recv hK.1 (kP_app.mp hP).1 (q0 := 0) rfl rfl) (fun U hU hW => ⟨by rw [hU]; exact (kP_app.mpr ⟨(kP_app.mp hP).1, (kP_app.mpr ⟨(kP_app.mp (kP_app.mp hP).2).1, (kP_app.mpr ⟨(kP_app.mp (kP_app.mp (kP_app.mp hP).2).2).1, (kP_mem.mpr (fun _ h => absurd h List.not_mem_nil))⟩)⟩)⟩), kK_warm hW hK⟩) ⟨rfl, rfl, Nat.le_of_ble_eq_true rfl, Nat.le_of_ble_eq_true rfl⟩ rfl hl.1 rfl (Nat.le_of_ble_eq_true rfl) dX6_findResting_64 ⟨Nat.le_of_ble_eq_true rfl, Nat.le_of_ble_eq_true rfl⟩) ?_
                refine lv_if_ne (tgt := 73) hx hb dX6_findResting_67 (by decide) (fun c4 => ?_) (fun c4 => ?_)
                · skip
                  have c4 := b2i_1 c4
                  refine lv_iload hx hb dX6_findResting_73 (lv_at hl 4 rfl) ?_
                  refine lv_bipush (v := 36) hx hb dX6_findResting_75 rfl ?_
                  refine lv_icmp_ge (tgt := 104) hx hb dX6_findResting_77 (by decide) (fun c5 => ?_) (fun c5 => ?_)
                  · skip
                    have c5' := Int32.not_lt.mpr c5
                    exact absurd c5 (show ¬ nI 36 ≤ nI _ from nI_ge (by omega) (by omega))
                  · skip
                    have c5' := Int32.not_le.mp c5
                    refine lv_aload_n hx hb dX6_findResting_80 rfl (lv_at hl 0 rfl) ?_
                    refine kget hC.1 hK (kP_app.mp hP).1 0 rfl rfl in_6 8 (by decide) (gw_in m_252 rfl) rfl dX6_findResting_81 ?_
                    refine lv_iload hx hb dX6_findResting_84 (lv_at hl 4 rfl) ?_
                    refine lv_iinc (v := nI (rkF r p q (g1F r p q p3 36) (g2F r p q p4 36) n + 1)) (lv' := [(4, .int (nI (rkF r p q (g1F r p q p3 36) (g2F r p q p4 36) n + 1))), (0, .ref (t 0)), (1, .ref (a 0)), (2, .int (p)), (3, .int (q)), (5, .int (nI n))]) hx hb dX6_findResting_86 hl (k := 4) rfl (inc_nI (rkF r p q (g1F r p q p3 36) (g2F r p q p4 36) n)) (by decide) rfl (fun ls hl => ?_)
                    refine lv_bipush (v := 10) hx hb dX6_findResting_89 rfl ?_
                    refine lv_iload hx hb dX6_findResting_91 (lv_at hl 5 rfl) ?_
                    refine lv_bipush (v := 6) hx hb dX6_findResting_93 rfl ?_
                    refine lv_idiv hx hb dX6_findResting_95 (by decide) ?_
                    refine top_i (x := (nI n) / 6) (y := nI (n / 6)) (pk_div (d := 6) (by omega) (by omega) (by omega)) ?_
                    refine lv_imul hx hb dX6_findResting_96 ?_
                    refine lv_iload hx hb dX6_findResting_97 (lv_at hl 5 rfl) ?_
                    refine lv_bipush (v := 6) hx hb dX6_findResting_99 rfl ?_
                    refine lv_irem hx hb dX6_findResting_101 (by decide) ?_
                    refine top_i (x := (nI n) - (nI n) / 6 * 6) (y := nI (n % 6)) (pk_rem (d := 6) (by omega) (by omega) (by omega)) ?_
                    refine lv_iadd hx hb dX6_findResting_102 ?_
                    refine top_i (x := (10 * (nI (n / 6))) + (nI (n % 6))) (y := nI (10 * (n / 6) + n % 6)) (by rw [show (10 : Int32) = nI 10 from rfl, pk_mul, nI_add]) ?_
                    refine kast (B' := tW g t (c 0) sg bs bc p1 p2 (g1F r p q p3 36) (g2F r p q p4 36) (upd (rpF r p q (g1F r p q p3 36) (g2F r p q p4 36) p5 n) (rkF r p q (g1F r p q p3 36) (g2F r p q p4 36) n) (nI (10 * (n / 6) + n % 6)))) hC.1 hK hP hD hS 6 rfl (vp_in_nI (by omega) (by omega)) (fun _ h => by rw [cl_nI (by omega)] at h; exact h) tW_adr dX6_findResting_103 (fun H locs hP hD hS => ?_)
                    refine lv_iinc (v := nI (n + 1)) (lv' := [(5, .int (nI (n + 1))), (4, .int (nI (rkF r p q (g1F r p q p3 36) (g2F r p q p4 36) n + 1))), (0, .ref (t 0)), (1, .ref (a 0)), (2, .int (p)), (3, .int (q))]) hx hb dX6_findResting_104 hl (k := 5) rfl (inc_nI n) (by decide) rfl (fun ls hl => ?_)
                    refine lv_goto (tgt := 40) hx hb dX6_findResting_107 (by decide) ?_
                    have e9 : rkF r p q (g1F r p q p3 36) (g2F r p q p4 36) (n + 1) = rkF r p q (g1F r p q p3 36) (g2F r p q p4 36) n + 1 ∧ rpF r p q (g1F r p q p3 36) (g2F r p q p4 36) p5 (n + 1) = (upd (rpF r p q (g1F r p q p3 36) (g2F r p q p4 36) p5 n) (rkF r p q (g1F r p q p3 36) (g2F r p q p4 36) n) (nI (10 * (n / 6) + n % 6))) := ⟨rk_t ⟨c3, c4⟩, rp_t ⟨c3, c4⟩⟩
                    have hl : lv_has ls 6 [(5, .int (nI (n + 1))), (4, .int (nI (rkF r p q (g1F r p q p3 36) (g2F r p q p4 36) (n + 1)))), (0, .ref (t 0)), (1, .ref (a 0)), (2, .int (p)), (3, .int (q))] := by simp only [e9.1, e9.2]; exact hl
                    have hP : kP g (tW g t (c 0) sg bs bc p1 p2 (g1F r p q p3 36) (g2F r p q p4 36) (rpF r p q (g1F r p q p3 36) (g2F r p q p4 36) p5 (n + 1)) ++ (yW g c gx.1 ++ (yW g a r ++ []))) _ := kP_eq (by simp only [e9.1, e9.2]) hP
                    have hD : va_D _ (tW g t (c 0) sg bs bc p1 p2 (g1F r p q p3 36) (g2F r p q p4 36) (rpF r p q (g1F r p q p3 36) (g2F r p q p4 36) p5 (n + 1)) ++ (yW g c gx.1 ++ (yW g a r ++ []))) := vD_eq (by simp only [e9.1, e9.2]) hD
                    exact ih40 (n + 1) (by omega) (by omega) _ _ hP hD hS _ (lv_sub hl [2, 3, 4, 5, 1, 0] rfl)
                · skip
                  have c4 := b2i_0 c4
                  refine lv_goto (tgt := 104) hx hb dX6_findResting_70 (by decide) ?_
                  refine lv_iinc (v := nI (n + 1)) (lv' := [(5, .int (nI (n + 1))), (0, .ref (t 0)), (1, .ref (a 0)), (2, .int (p)), (3, .int (q)), (4, .int (nI (rkF r p q (g1F r p q p3 36) (g2F r p q p4 36) n)))]) hx hb dX6_findResting_104 hl (k := 5) rfl (inc_nI n) (by decide) rfl (fun ls hl => ?_)
                  refine lv_goto (tgt := 40) hx hb dX6_findResting_107 (by decide) ?_
                  have e9 : rkF r p q (g1F r p q p3 36) (g2F r p q p4 36) (n + 1) = rkF r p q (g1F r p q p3 36) (g2F r p q p4 36) n ∧ rpF r p q (g1F r p q p3 36) (g2F r p q p4 36) p5 (n + 1) = rpF r p q (g1F r p q p3 36) (g2F r p q p4 36) p5 n := ⟨rk_f (Or.inr c4), rp_f (Or.inr c4)⟩
                  have hl : lv_has ls 6 [(5, .int (nI (n + 1))), (0, .ref (t 0)), (1, .ref (a 0)), (2, .int (p)), (3, .int (q)), (4, .int (nI (rkF r p q (g1F r p q p3 36) (g2F r p q p4 36) (n + 1))))] := by simp only [e9.1, e9.2]; exact hl
                  have hP : kP g (tW g t (c 0) sg bs bc p1 p2 (g1F r p q p3 36) (g2F r p q p4 36) (rpF r p q (g1F r p q p3 36) (g2F r p q p4 36) p5 (n + 1)) ++ (yW g c gx.1 ++ (yW g a r ++ []))) _ := kP_eq (by simp only [e9.1, e9.2]) hP
                  have hD : va_D _ (tW g t (c 0) sg bs bc p1 p2 (g1F r p q p3 36) (g2F r p q p4 36) (rpF r p q (g1F r p q p3 36) (g2F r p q p4 36) p5 (n + 1)) ++ (yW g c gx.1 ++ (yW g a r ++ []))) := vD_eq (by simp only [e9.1, e9.2]) hD
                  exact ih40 (n + 1) (by omega) (by omega) _ _ hP hD hS _ (lv_sub hl [1, 2, 3, 4, 5, 0] rfl)
        exact cut40 _ 0 (Nat.lt_succ_self _) (by omega) _ _ hP hD hS _ (lv_sub hl [2, 3, 4, 5, 1, 0] rfl)
      · skip
        have c1' := Int32.not_le.mp c1
        have hn9 : n < 36 := by have := lp_lt (by omega) c1; rw [show (36 : Int32).toInt = 36 from rfl] at this; omega
        refine lv_aload_n hx hb dX6_findResting_10 rfl (lv_at hl 1 rfl) ?_
        refine lv_iload_n hx hb dX6_findResting_11 rfl (lv_at hl 2 rfl) ?_
        refine lv_iload_n hx hb dX6_findResting_12 rfl (lv_at hl 3 rfl) ?_
        refine lv_iload hx hb dX6_findResting_13 (lv_at hl 4 rfl) ?_
        refine ro_i (run_S (As := [.ref (a 0), .int (p), .int (q), .int (nI n)]) (rest := []) hC.1 ckX6_isChoice (kX6_isChoice l g a r p q n hw hn9) (gw_in m_833 rfl) (fb_ro _ _ _) (fun U hU hW => ⟨by rw [hU]; exact (kP_app.mp (kP_app.mp (kP_app.mp hP).2).2).1, kK_warm hW hK⟩) ⟨rfl, rfl, Nat.le_of_ble_eq_true rfl, Nat.le_of_ble_eq_true rfl⟩ rfl hl.1 rfl (Nat.le_of_ble_eq_true rfl) dX6_findResting_15 ⟨Nat.le_of_ble_eq_true rfl, Nat.le_of_ble_eq_true rfl⟩) ?_
        refine lv_if_eq (tgt := 28) hx hb dX6_findResting_18 (by decide) (fun c6 => ?_) (fun c6 => ?_)
        · skip
          have c6 := b2i_0 c6
          refine lv_iinc (v := nI (n + 1)) (lv' := [(4, .int (nI (n + 1))), (0, .ref (t 0)), (1, .ref (a 0)), (2, .int (p)), (3, .int (q))]) hx hb dX6_findResting_28 hl (k := 4) rfl (inc_nI n) (by decide) rfl (fun ls hl => ?_)
          refine lv_goto (tgt := 3) hx hb dX6_findResting_31 (by decide) ?_
          have e9 : g1F r p q p3 (n + 1) = g1F r p q p3 n ∧ g2F r p q p4 (n + 1) = g2F r p q p4 n := ⟨g1_f c6, g2_f c6⟩
          have hP : kP g (tW g t (c 0) sg bs bc p1 p2 (g1F r p q p3 (n + 1)) (g2F r p q p4 (n + 1)) p5 ++ (yW g c gx.1 ++ (yW g a r ++ []))) _ := kP_eq (by rw [e9.1, e9.2]) hP
          have hD : va_D _ (tW g t (c 0) sg bs bc p1 p2 (g1F r p q p3 (n + 1)) (g2F r p q p4 (n + 1)) p5 ++ (yW g c gx.1 ++ (yW g a r ++ []))) := vD_eq (by rw [e9.1, e9.2]) hD
          exact ih3 (n + 1) gx (by omega) (by omega) _ _ hP hD hS _ (lv_sub hl [1, 2, 3, 4, 0] rfl)
        · skip
          have c6 := b2i_1 c6
          refine lv_aload_n hx hb dX6_findResting_21 rfl (lv_at hl 0 rfl) ?_
          refine lv_aload_n hx hb dX6_findResting_22 rfl (lv_at hl 1 rfl) ?_
          refine lv_iload hx hb dX6_findResting_23 (lv_at hl 4 rfl) ?_
          refine rw_v (run_V (As := [.ref (a 0), .int (nI n)]) (rest := []) hC.1 ckX6_weigh (kX6_weigh l g t c sg bs bc p1 p2 (g1F r p q p3 n) (g2F r p q p4 n) p5 gx.1 a r n hw hn9) (gw_in m_836 rfl) (fb_rw _ _ _) (va_recv hK.1 (kP_app.mp hP).1 (q0 := 0) rfl rfl) (fun U hU hW => ⟨by rw [hU]; exact (kP_app.mpr ⟨(kP_app.mp hP).1, (kP_app.mpr ⟨(kP_app.mp (kP_app.mp hP).2).1, (kP_app.mpr ⟨(kP_app.mp (kP_app.mp (kP_app.mp hP).2).2).1, kP_nil⟩)⟩)⟩), kK_warm hW hK, vD_sub (sbA _ (sbA _ (sbA _ (sb0 _)))) hD⟩) ⟨rfl, rfl, Nat.le_of_ble_eq_true rfl, Nat.le_of_ble_eq_true rfl⟩ rfl hl.1 rfl (Nat.le_of_ble_eq_true rfl) dX6_findResting_25 ⟨Nat.le_of_ble_eq_true rfl, Nat.le_of_ble_eq_true rfl⟩) (adr_app tW_adr (adr_app yW_adr (adr_app rfl rfl))) (asc3 _ _ _ _) (ww' := tW g t (c 0) sg bs bc p1 p2 (upd (g1F r p q p3 n) n (gtB (fgt true (nI (n / 6)) (nI (n % 6)) 60 0 r).2 r (nI (n / 6)))) (upd (g2F r p q p4 n) n (gtB (fgt true (nI (n / 6)) (nI (n % 6)) 60 0 r).2 r (nI (n % 6)))) p5 ++ (yW g c (fgt true (nI (n / 6)) (nI (n % 6)) 60 0 r).2 ++ (yW g a r ++ []))) (asc3 _ _ _ _) hP hD hS (fun H locs hP hD hS => ?_)
          refine lv_iinc (v := nI (n + 1)) (lv' := [(4, .int (nI (n + 1))), (0, .ref (t 0)), (1, .ref (a 0)), (2, .int (p)), (3, .int (q))]) hx hb dX6_findResting_28 hl (k := 4) rfl (inc_nI n) (by decide) rfl (fun ls hl => ?_)
          refine lv_goto (tgt := 3) hx hb dX6_findResting_31 (by decide) ?_
          have e9 : g1F r p q p3 (n + 1) = (upd (g1F r p q p3 n) n (gtB (fgt true (nI (n / 6)) (nI (n % 6)) 60 0 r).2 r (nI (n / 6)))) ∧ g2F r p q p4 (n + 1) = (upd (g2F r p q p4 n) n (gtB (fgt true (nI (n / 6)) (nI (n % 6)) 60 0 r).2 r (nI (n % 6)))) := ⟨g1_t c6, g2_t c6⟩
          have hP : kP g (tW g t (c 0) sg bs bc p1 p2 (g1F r p q p3 (n + 1)) (g2F r p q p4 (n + 1)) p5 ++ (yW g c (fgt true (nI (n / 6)) (nI (n % 6)) 60 0 r).2 ++ (yW g a r ++ []))) _ := kP_eq (by rw [e9.1, e9.2]) hP
          have hD : va_D _ (tW g t (c 0) sg bs bc p1 p2 (g1F r p q p3 (n + 1)) (g2F r p q p4 (n + 1)) p5 ++ (yW g c (fgt true (nI (n / 6)) (nI (n % 6)) 60 0 r).2 ++ (yW g a r ++ []))) := vD_eq (by rw [e9.1, e9.2]) hD
          exact ih3 (n + 1) (⟨(fgt true (nI (n / 6)) (nI (n % 6)) 60 0 r).2, Wf_fgt hw⟩) (by omega) (by omega) _ _ hP hD hS _ (lv_sub hl [1, 2, 3, 4, 0] rfl)
  exact cut3 _ 0 (⟨rg, hg⟩) (Nat.lt_succ_self _) (by omega) _ _ hP hD hS _ (lv_sub hl [1, 2, 3, 4, 0] rfl)
