theorem ckX2_thatFit : ckV yX2_thatFit cX2_thatFit 7 (some .int) 3 := ⟨(gw_in m_757 rfl), (gw_in m_70 rfl), ⟨(gw_in m_755 rfl), (gw_in m_756 rfl)⟩, by decide +kernel, by decide +kernel, by decide +kernel⟩
theorem ckX2_answerOf : ckS yX2_answerOf cX2_answerOf 8 (some .int) 5 := ⟨(gw_in m_792 rfl), (gw_in m_70 rfl), (gw_in m_791 rfl), by decide +kernel, by decide +kernel, by decide +kernel⟩
set_option maxHeartbeats 4000000 in
set_option maxRecDepth 100000 in
theorem kX2_thatFit_0 (l : Launch) (g : gG) (u : Nat → Nat) (uf : Nat → Int32) (a ay ap b1 b2 b3 : Nat → Nat) (r : Nat → Int32) (N : Nat) (f : Nat → Int32) (N1 N2 N3 : Nat) (l1 l2 l3 : Int32) (f1 f2 f3 : Nat → Int32) (who : Int32) (hw : Wf r) (hN : N1 ≤ 6) (hf : ∀ n, n < N1 → bd (f1 (6 * n + 3)) 0 44) : Met l yX2_thatFit (.code yX2_thatFit cX2_thatFit 7 (some .int) :: gw) (rmN 6) (va_Pc [.ref (u 0), .int (0), .ref (a 0), .int (who)] (roPre g (uW g u uf ++ (gW g a (ay 0) (ap 0) (b1 0) (b2 0) (b3 0) ++ (yW g ay r ++ (pW g ap N f ++ (rW g b1 N1 l1 f1 ++ (rW g b2 N2 l2 f2 ++ (rW g b3 N3 l3 f3 ++ []))))))))) (vp_Si (fun v => v = (setB (fun k => allF f1 who (fun n => fit0 r f1 (nI k) n) N1) 10))) 0 0 (fun _ => False) := by
  refine met_start (by decide) (Nat.le_of_ble_eq_true rfl) ?_
  intro pp ee ss mm bl mt cd hC hpre ls hl
  obtain ⟨⟨hx, hb, hml, hown, hts⟩, hr, hlk, hnm⟩ := id hC
  have hl : lv_has ls 7 [(0, .ref (u 0)), (1, .int (0)), (2, .ref (a 0)), (3, .int (who))] := hl
  obtain ⟨hP, hK⟩ := hpre
  refine lv_iload_n hx hb dX2_thatFit_0 rfl (lv_at hl 1 rfl) ?_
  refine lv_if_ne (tgt := 9) hx hb dX2_thatFit_1 (by decide) (fun c1 => ?_) (fun c1 => ?_)
  · skip
    exact absurd c1 (by decide)
  · skip
    refine lv_bipush (v := 10) hx hb dX2_thatFit_4 rfl ?_
    refine lv_goto (tgt := 11) hx hb dX2_thatFit_6 (by decide) ?_
    refine lv_istore (lv' := [(4, .int (10)), (0, .ref (u 0)), (1, .int (0)), (2, .ref (a 0)), (3, .int (who))]) hx hb dX2_thatFit_11 hl (by decide) rfl (fun ls hl => ?_)
    refine lv_iconst (v := 0) hx hb dX2_thatFit_13 rfl ?_
    refine lv_istore (lv' := [(5, .int (0)), (4, .int (10)), (0, .ref (u 0)), (1, .int (0)), (2, .ref (a 0)), (3, .int (who))]) hx hb dX2_thatFit_14 hl (by decide) rfl (fun ls hl => ?_)
    refine lv_iconst (v := 0) hx hb dX2_thatFit_16 rfl ?_
    refine lv_istore (lv' := [(6, .int (0)), (5, .int (0)), (4, .int (10)), (0, .ref (u 0)), (1, .int (0)), (2, .ref (a 0)), (3, .int (who))]) hx hb dX2_thatFit_17 hl (by decide) rfl (fun ls hl => ?_)
    have cut19 : ∀ kk : Nat, ∀ (n : Nat), 11 - n < kk → (hn : n ≤ 10) → ∀ (ls : Array Slot), lv_has ls 7 [(0, .ref (u 0)), (1, .int (0)), (2, .ref (a 0)), (3, .int (who)), (4, .int (10)), (5, .int (setB (fun k => allF f1 who (fun n => fit0 r f1 (nI k) n) N1) n)), (6, .int (nI n))] → W pp l ee (rmN 6) ss mm ([.ref (u 0), .int (0), .ref (a 0), .int (who)] : List Value).toArray bl mt cd ss.heap [] 0 0 (MQ bl (vp_Si (fun v => v = (setB (fun k => allF f1 who (fun n => fit0 r f1 (nI k) n) N1) 10))) ([.ref (u 0), .int (0), .ref (a 0), .int (who)] : List Value).toArray ss 0 0 (fun _ => False)) (F0 mm 19 ls []) := by
      intro kk
      induction kk with
      | zero => intro n hmu; exact absurd hmu (Nat.not_lt_zero _)
      | succ kk ih19 =>
        intro n hmu hn ls hl
        refine lv_iload hx hb dX2_thatFit_19 (lv_at hl 6 rfl) ?_
        refine lv_iload hx hb dX2_thatFit_21 (lv_at hl 4 rfl) ?_
        refine lv_icmp_ge (tgt := 52) hx hb dX2_thatFit_23 (by decide) (fun c2 => ?_) (fun c2 => ?_)
        · skip
          have c2' := Int32.not_lt.mpr c2
          have hn9 : n = 10 := by have := lp_ge (by omega) c2; rw [show (10 : Int32).toInt = 10 from rfl] at this; omega
          subst hn9
          refine lv_iload hx hb dX2_thatFit_52 (lv_at hl 5 rfl) ?_
          exact ret_roi hx hb hr hlk (by rfl) dX2_thatFit_54
        · skip
          have c2' := Int32.not_le.mp c2
          have hn9 : n < 10 := by have := lp_lt (by omega) c2; rw [show (10 : Int32).toInt = 10 from rfl] at this; omega
          refine lv_iload_n hx hb dX2_thatFit_26 rfl (lv_at hl 1 rfl) ?_
          refine lv_aload_n hx hb dX2_thatFit_27 rfl (lv_at hl 2 rfl) ?_
          refine lv_iload_n hx hb dX2_thatFit_28 rfl (lv_at hl 3 rfl) ?_
          refine lv_iload hx hb dX2_thatFit_29 (lv_at hl 6 rfl) ?_
          refine ro_i (run_S (As := [.int (0), .ref (a 0), .int (who), .int (nI n)]) (rest := []) hC.1 ckX2_allFit (kX2_allFit_0 l g a ay ap b1 b2 b3 r N f N1 N2 N3 l1 l2 l3 f1 f2 f3 who (nI n) hw hN (by unfold bd; rw [nI_ti (by omega)]; omega) hf) (gw_in m_758 rfl) (fb_ro _ _ _) (fun U hU hW => ⟨by rw [hU]; exact (kP_app.mpr ⟨(kP_app.mp (kP_app.mp hP).2).1, (kP_app.mpr ⟨(kP_app.mp (kP_app.mp (kP_app.mp hP).2).2).1, (kP_app.mpr ⟨(kP_app.mp (kP_app.mp (kP_app.mp (kP_app.mp hP).2).2).2).1, (kP_app.mpr ⟨(kP_app.mp (kP_app.mp (kP_app.mp (kP_app.mp (kP_app.mp hP).2).2).2).2).1, (kP_app.mpr ⟨(kP_app.mp (kP_app.mp (kP_app.mp (kP_app.mp (kP_app.mp (kP_app.mp hP).2).2).2).2).2).1, (kP_app.mpr ⟨(kP_app.mp (kP_app.mp (kP_app.mp (kP_app.mp (kP_app.mp (kP_app.mp (kP_app.mp hP).2).2).2).2).2).2).1, (kP_mem.mpr (fun _ h => absurd h List.not_mem_nil))⟩)⟩)⟩)⟩)⟩)⟩), kK_warm hW hK⟩) ⟨rfl, rfl, Nat.le_of_ble_eq_true rfl, Nat.le_of_ble_eq_true rfl⟩ rfl hl.1 rfl (Nat.le_of_ble_eq_true rfl) dX2_thatFit_31 ⟨Nat.le_of_ble_eq_true rfl, Nat.le_of_ble_eq_true rfl⟩) ?_
          refine lv_if_eq (tgt := 46) hx hb dX2_thatFit_34 (by decide) (fun c3 => ?_) (fun c3 => ?_)
          · skip
            have c3 := b2i_0 c3
            refine lv_iinc (v := nI (n + 1)) (lv' := [(6, .int (nI (n + 1))), (0, .ref (u 0)), (1, .int (0)), (2, .ref (a 0)), (3, .int (who)), (4, .int (10)), (5, .int (setB (fun k => allF f1 who (fun n => fit0 r f1 (nI k) n) N1) n))]) hx hb dX2_thatFit_46 hl (k := 6) rfl (inc_nI n) (by decide) rfl (fun ls hl => ?_)
            refine lv_goto (tgt := 19) hx hb dX2_thatFit_49 (by decide) ?_
            rw [setB_f (p := (fun k => allF f1 who (fun n => fit0 r f1 (nI k) n) N1)) c3] at hl
            exact ih19 (n + 1) (by omega) (by omega) _ (lv_sub hl [1, 2, 3, 4, 5, 6, 0] rfl)
          · skip
            have c3 := b2i_1 c3
            refine lv_iload hx hb dX2_thatFit_37 (lv_at hl 5 rfl) ?_
            refine lv_iconst (v := 1) hx hb dX2_thatFit_39 rfl ?_
            refine lv_iload hx hb dX2_thatFit_40 (lv_at hl 6 rfl) ?_
            refine lv_ishl hx hb dX2_thatFit_42 ?_
            refine lv_ior hx hb dX2_thatFit_43 ?_
            refine top_i (x := (setB (fun k => allF f1 who (fun n => fit0 r f1 (nI k) n) N1) n) ||| (1 <<< ((nI n) &&& 31))) (y := setB (fun k => allF f1 who (fun n => fit0 r f1 (nI k) n) N1) (n + 1)) (setB_t (p := (fun k => allF f1 who (fun n => fit0 r f1 (nI k) n) N1)) c3) ?_
            refine lv_istore (lv' := [(5, .int (setB (fun k => allF f1 who (fun n => fit0 r f1 (nI k) n) N1) (n + 1))), (0, .ref (u 0)), (1, .int (0)), (2, .ref (a 0)), (3, .int (who)), (4, .int (10)), (6, .int (nI n))]) hx hb dX2_thatFit_44 hl (by decide) rfl (fun ls hl => ?_)
            refine lv_iinc (v := nI (n + 1)) (lv' := [(6, .int (nI (n + 1))), (5, .int (setB (fun k => allF f1 who (fun n => fit0 r f1 (nI k) n) N1) (n + 1))), (0, .ref (u 0)), (1, .int (0)), (2, .ref (a 0)), (3, .int (who)), (4, .int (10))]) hx hb dX2_thatFit_46 hl (k := 6) rfl (inc_nI n) (by decide) rfl (fun ls hl => ?_)
            refine lv_goto (tgt := 19) hx hb dX2_thatFit_49 (by decide) ?_
            exact ih19 (n + 1) (by omega) (by omega) _ (lv_sub hl [2, 3, 4, 5, 6, 1, 0] rfl)
    exact cut19 _ 0 (Nat.lt_succ_self _) (by omega) _ (lv_sub hl [3, 4, 5, 6, 2, 1, 0] rfl)
set_option maxHeartbeats 4000000 in
set_option maxRecDepth 100000 in
theorem kX2_thatFit_1 (l : Launch) (g : gG) (u : Nat → Nat) (uf : Nat → Int32) (a ay ap b1 b2 b3 : Nat → Nat) (r : Nat → Int32) (N : Nat) (f : Nat → Int32) (N1 N2 N3 : Nat) (l1 l2 l3 : Int32) (f1 f2 f3 : Nat → Int32) (who : Int32) (hw : Wf r) (hN : N2 ≤ 6) (hf : ∀ n, n < N2 → bd (f2 (6 * n + 1)) 0 9 ∧ bd (f2 (6 * n + 4)) 0 44) : Met l yX2_thatFit (.code yX2_thatFit cX2_thatFit 7 (some .int) :: gw) (rmN 6) (va_Pc [.ref (u 0), .int (1), .ref (a 0), .int (who)] (roPre g (uW g u uf ++ (gW g a (ay 0) (ap 0) (b1 0) (b2 0) (b3 0) ++ (yW g ay r ++ (pW g ap N f ++ (rW g b1 N1 l1 f1 ++ (rW g b2 N2 l2 f2 ++ (rW g b3 N3 l3 f3 ++ []))))))))) (vp_Si (fun v => v = (setB (fun k => allF f2 who (fun n => fit1 f2 (nI k) n) N2) 6))) 0 0 (fun _ => False) := by
  refine met_start (by decide) (Nat.le_of_ble_eq_true rfl) ?_
  intro pp ee ss mm bl mt cd hC hpre ls hl
  obtain ⟨⟨hx, hb, hml, hown, hts⟩, hr, hlk, hnm⟩ := id hC
  have hl : lv_has ls 7 [(0, .ref (u 0)), (1, .int (1)), (2, .ref (a 0)), (3, .int (who))] := hl
  obtain ⟨hP, hK⟩ := hpre
  refine lv_iload_n hx hb dX2_thatFit_0 rfl (lv_at hl 1 rfl) ?_
  refine lv_if_ne (tgt := 9) hx hb dX2_thatFit_1 (by decide) (fun c1 => ?_) (fun c1 => ?_)
  · skip
    refine lv_bipush (v := 6) hx hb dX2_thatFit_9 rfl ?_
    refine lv_istore (lv' := [(4, .int (6)), (0, .ref (u 0)), (1, .int (1)), (2, .ref (a 0)), (3, .int (who))]) hx hb dX2_thatFit_11 hl (by decide) rfl (fun ls hl => ?_)
    refine lv_iconst (v := 0) hx hb dX2_thatFit_13 rfl ?_
    refine lv_istore (lv' := [(5, .int (0)), (4, .int (6)), (0, .ref (u 0)), (1, .int (1)), (2, .ref (a 0)), (3, .int (who))]) hx hb dX2_thatFit_14 hl (by decide) rfl (fun ls hl => ?_)
    refine lv_iconst (v := 0) hx hb dX2_thatFit_16 rfl ?_
    refine lv_istore (lv' := [(6, .int (0)), (5, .int (0)), (4, .int (6)), (0, .ref (u 0)), (1, .int (1)), (2, .ref (a 0)), (3, .int (who))]) hx hb dX2_thatFit_17 hl (by decide) rfl (fun ls hl => ?_)
    have cut19 : ∀ kk : Nat, ∀ (n : Nat), 11 - n < kk → (hn : n ≤ 6) → ∀ (ls : Array Slot), lv_has ls 7 [(0, .ref (u 0)), (1, .int (1)), (2, .ref (a 0)), (3, .int (who)), (4, .int (6)), (5, .int (setB (fun k => allF f2 who (fun n => fit1 f2 (nI k) n) N2) n)), (6, .int (nI n))] → W pp l ee (rmN 6) ss mm ([.ref (u 0), .int (1), .ref (a 0), .int (who)] : List Value).toArray bl mt cd ss.heap [] 0 0 (MQ bl (vp_Si (fun v => v = (setB (fun k => allF f2 who (fun n => fit1 f2 (nI k) n) N2) 6))) ([.ref (u 0), .int (1), .ref (a 0), .int (who)] : List Value).toArray ss 0 0 (fun _ => False)) (F0 mm 19 ls []) := by
      intro kk
      induction kk with
      | zero => intro n hmu; exact absurd hmu (Nat.not_lt_zero _)
      | succ kk ih19 =>
        intro n hmu hn ls hl
        refine lv_iload hx hb dX2_thatFit_19 (lv_at hl 6 rfl) ?_
        refine lv_iload hx hb dX2_thatFit_21 (lv_at hl 4 rfl) ?_
        refine lv_icmp_ge (tgt := 52) hx hb dX2_thatFit_23 (by decide) (fun c2 => ?_) (fun c2 => ?_)
        · skip
          have c2' := Int32.not_lt.mpr c2
          have hn9 : n = 6 := by have := lp_ge (by omega) c2; rw [show (6 : Int32).toInt = 6 from rfl] at this; omega
          subst hn9
          refine lv_iload hx hb dX2_thatFit_52 (lv_at hl 5 rfl) ?_
          exact ret_roi hx hb hr hlk (by rfl) dX2_thatFit_54
        · skip
          have c2' := Int32.not_le.mp c2
          have hn9 : n < 6 := by have := lp_lt (by omega) c2; rw [show (6 : Int32).toInt = 6 from rfl] at this; omega
          refine lv_iload_n hx hb dX2_thatFit_26 rfl (lv_at hl 1 rfl) ?_
          refine lv_aload_n hx hb dX2_thatFit_27 rfl (lv_at hl 2 rfl) ?_
          refine lv_iload_n hx hb dX2_thatFit_28 rfl (lv_at hl 3 rfl) ?_
          refine lv_iload hx hb dX2_thatFit_29 (lv_at hl 6 rfl) ?_
          refine ro_i (run_S (As := [.int (1), .ref (a 0), .int (who), .int (nI n)]) (rest := []) hC.1 ckX2_allFit (kX2_allFit_1 l g a ay ap b1 b2 b3 r N f N1 N2 N3 l1 l2 l3 f1 f2 f3 who (nI n) hw hN hf) (gw_in m_758 rfl) (fb_ro _ _ _) (fun U hU hW => ⟨by rw [hU]; exact (kP_app.mpr ⟨(kP_app.mp (kP_app.mp hP).2).1, (kP_app.mpr ⟨(kP_app.mp (kP_app.mp (kP_app.mp hP).2).2).1, (kP_app.mpr ⟨(kP_app.mp (kP_app.mp (kP_app.mp (kP_app.mp hP).2).2).2).1, (kP_app.mpr ⟨(kP_app.mp (kP_app.mp (kP_app.mp (kP_app.mp (kP_app.mp hP).2).2).2).2).1, (kP_app.mpr ⟨(kP_app.mp (kP_app.mp (kP_app.mp (kP_app.mp (kP_app.mp (kP_app.mp hP).2).2).2).2).2).1, (kP_app.mpr ⟨(kP_app.mp (kP_app.mp (kP_app.mp (kP_app.mp (kP_app.mp (kP_app.mp (kP_app.mp hP).2).2).2).2).2).2).1, (kP_mem.mpr (fun _ h => absurd h List.not_mem_nil))⟩)⟩)⟩)⟩)⟩)⟩), kK_warm hW hK⟩) ⟨rfl, rfl, Nat.le_of_ble_eq_true rfl, Nat.le_of_ble_eq_true rfl⟩ rfl hl.1 rfl (Nat.le_of_ble_eq_true rfl) dX2_thatFit_31 ⟨Nat.le_of_ble_eq_true rfl, Nat.le_of_ble_eq_true rfl⟩) ?_
          refine lv_if_eq (tgt := 46) hx hb dX2_thatFit_34 (by decide) (fun c3 => ?_) (fun c3 => ?_)
          · skip
            have c3 := b2i_0 c3
            refine lv_iinc (v := nI (n + 1)) (lv' := [(6, .int (nI (n + 1))), (0, .ref (u 0)), (1, .int (1)), (2, .ref (a 0)), (3, .int (who)), (4, .int (6)), (5, .int (setB (fun k => allF f2 who (fun n => fit1 f2 (nI k) n) N2) n))]) hx hb dX2_thatFit_46 hl (k := 6) rfl (inc_nI n) (by decide) rfl (fun ls hl => ?_)
            refine lv_goto (tgt := 19) hx hb dX2_thatFit_49 (by decide) ?_
            rw [setB_f (p := (fun k => allF f2 who (fun n => fit1 f2 (nI k) n) N2)) c3] at hl
            exact ih19 (n + 1) (by omega) (by omega) _ (lv_sub hl [1, 2, 3, 4, 5, 6, 0] rfl)
          · skip
            have c3 := b2i_1 c3
            refine lv_iload hx hb dX2_thatFit_37 (lv_at hl 5 rfl) ?_
            refine lv_iconst (v := 1) hx hb dX2_thatFit_39 rfl ?_
            refine lv_iload hx hb dX2_thatFit_40 (lv_at hl 6 rfl) ?_
            refine lv_ishl hx hb dX2_thatFit_42 ?_
            refine lv_ior hx hb dX2_thatFit_43 ?_
            refine top_i (x := (setB (fun k => allF f2 who (fun n => fit1 f2 (nI k) n) N2) n) ||| (1 <<< ((nI n) &&& 31))) (y := setB (fun k => allF f2 who (fun n => fit1 f2 (nI k) n) N2) (n + 1)) (setB_t (p := (fun k => allF f2 who (fun n => fit1 f2 (nI k) n) N2)) c3) ?_
            refine lv_istore (lv' := [(5, .int (setB (fun k => allF f2 who (fun n => fit1 f2 (nI k) n) N2) (n + 1))), (0, .ref (u 0)), (1, .int (1)), (2, .ref (a 0)), (3, .int (who)), (4, .int (6)), (6, .int (nI n))]) hx hb dX2_thatFit_44 hl (by decide) rfl (fun ls hl => ?_)
            refine lv_iinc (v := nI (n + 1)) (lv' := [(6, .int (nI (n + 1))), (5, .int (setB (fun k => allF f2 who (fun n => fit1 f2 (nI k) n) N2) (n + 1))), (0, .ref (u 0)), (1, .int (1)), (2, .ref (a 0)), (3, .int (who)), (4, .int (6))]) hx hb dX2_thatFit_46 hl (k := 6) rfl (inc_nI n) (by decide) rfl (fun ls hl => ?_)
            refine lv_goto (tgt := 19) hx hb dX2_thatFit_49 (by decide) ?_
            exact ih19 (n + 1) (by omega) (by omega) _ (lv_sub hl [2, 3, 4, 5, 6, 1, 0] rfl)
    exact cut19 _ 0 (Nat.lt_succ_self _) (by omega) _ (lv_sub hl [3, 4, 5, 6, 2, 1, 0] rfl)
  · skip
    exact absurd c1 (by decide)
set_option maxHeartbeats 4000000 in
set_option maxRecDepth 100000 in
theorem kX2_thatFit_2 (l : Launch) (g : gG) (u : Nat → Nat) (uf : Nat → Int32) (a ay ap b1 b2 b3 : Nat → Nat) (r : Nat → Int32) (N : Nat) (f : Nat → Int32) (N1 N2 N3 : Nat) (l1 l2 l3 : Int32) (f1 f2 f3 : Nat → Int32) (who : Int32) (hw : Wf r) (hN : N3 ≤ 6) : Met l yX2_thatFit (.code yX2_thatFit cX2_thatFit 7 (some .int) :: gw) (rmN 6) (va_Pc [.ref (u 0), .int (2), .ref (a 0), .int (who)] (roPre g (uW g u uf ++ (gW g a (ay 0) (ap 0) (b1 0) (b2 0) (b3 0) ++ (yW g ay r ++ (pW g ap N f ++ (rW g b1 N1 l1 f1 ++ (rW g b2 N2 l2 f2 ++ (rW g b3 N3 l3 f3 ++ []))))))))) (vp_Si (fun v => v = (setB (fun k => allF f3 who (fun n => fit2 f3 (nI k) n) N3) 6))) 0 0 (fun _ => False) := by
  refine met_start (by decide) (Nat.le_of_ble_eq_true rfl) ?_
  intro pp ee ss mm bl mt cd hC hpre ls hl
  obtain ⟨⟨hx, hb, hml, hown, hts⟩, hr, hlk, hnm⟩ := id hC
  have hl : lv_has ls 7 [(0, .ref (u 0)), (1, .int (2)), (2, .ref (a 0)), (3, .int (who))] := hl
  obtain ⟨hP, hK⟩ := hpre
  refine lv_iload_n hx hb dX2_thatFit_0 rfl (lv_at hl 1 rfl) ?_
  refine lv_if_ne (tgt := 9) hx hb dX2_thatFit_1 (by decide) (fun c1 => ?_) (fun c1 => ?_)
  · skip
    refine lv_bipush (v := 6) hx hb dX2_thatFit_9 rfl ?_
    refine lv_istore (lv' := [(4, .int (6)), (0, .ref (u 0)), (1, .int (2)), (2, .ref (a 0)), (3, .int (who))]) hx hb dX2_thatFit_11 hl (by decide) rfl (fun ls hl => ?_)
    refine lv_iconst (v := 0) hx hb dX2_thatFit_13 rfl ?_
    refine lv_istore (lv' := [(5, .int (0)), (4, .int (6)), (0, .ref (u 0)), (1, .int (2)), (2, .ref (a 0)), (3, .int (who))]) hx hb dX2_thatFit_14 hl (by decide) rfl (fun ls hl => ?_)
    refine lv_iconst (v := 0) hx hb dX2_thatFit_16 rfl ?_
    refine lv_istore (lv' := [(6, .int (0)), (5, .int (0)), (4, .int (6)), (0, .ref (u 0)), (1, .int (2)), (2, .ref (a 0)), (3, .int (who))]) hx hb dX2_thatFit_17 hl (by decide) rfl (fun ls hl => ?_)
    have cut19 : ∀ kk : Nat, ∀ (n : Nat), 11 - n < kk → (hn : n ≤ 6) → ∀ (ls : Array Slot), lv_has ls 7 [(0, .ref (u 0)), (1, .int (2)), (2, .ref (a 0)), (3, .int (who)), (4, .int (6)), (5, .int (setB (fun k => allF f3 who (fun n => fit2 f3 (nI k) n) N3) n)), (6, .int (nI n))] → W pp l ee (rmN 6) ss mm ([.ref (u 0), .int (2), .ref (a 0), .int (who)] : List Value).toArray bl mt cd ss.heap [] 0 0 (MQ bl (vp_Si (fun v => v = (setB (fun k => allF f3 who (fun n => fit2 f3 (nI k) n) N3) 6))) ([.ref (u 0), .int (2), .ref (a 0), .int (who)] : List Value).toArray ss 0 0 (fun _ => False)) (F0 mm 19 ls []) := by
      intro kk
      induction kk with
      | zero => intro n hmu; exact absurd hmu (Nat.not_lt_zero _)
      | succ kk ih19 =>
        intro n hmu hn ls hl
        refine lv_iload hx hb dX2_thatFit_19 (lv_at hl 6 rfl) ?_
        refine lv_iload hx hb dX2_thatFit_21 (lv_at hl 4 rfl) ?_
        refine lv_icmp_ge (tgt := 52) hx hb dX2_thatFit_23 (by decide) (fun c2 => ?_) (fun c2 => ?_)
        · skip
          have c2' := Int32.not_lt.mpr c2
          have hn9 : n = 6 := by have := lp_ge (by omega) c2; rw [show (6 : Int32).toInt = 6 from rfl] at this; omega
          subst hn9
          refine lv_iload hx hb dX2_thatFit_52 (lv_at hl 5 rfl) ?_
          exact ret_roi hx hb hr hlk (by rfl) dX2_thatFit_54
        · skip
          have c2' := Int32.not_le.mp c2
          have hn9 : n < 6 := by have := lp_lt (by omega) c2; rw [show (6 : Int32).toInt = 6 from rfl] at this; omega
          refine lv_iload_n hx hb dX2_thatFit_26 rfl (lv_at hl 1 rfl) ?_
          refine lv_aload_n hx hb dX2_thatFit_27 rfl (lv_at hl 2 rfl) ?_
          refine lv_iload_n hx hb dX2_thatFit_28 rfl (lv_at hl 3 rfl) ?_
          refine lv_iload hx hb dX2_thatFit_29 (lv_at hl 6 rfl) ?_
          refine ro_i (run_S (As := [.int (2), .ref (a 0), .int (who), .int (nI n)]) (rest := []) hC.1 ckX2_allFit (kX2_allFit_2 l g a ay ap b1 b2 b3 r N f N1 N2 N3 l1 l2 l3 f1 f2 f3 who (nI n) hw hN) (gw_in m_758 rfl) (fb_ro _ _ _) (fun U hU hW => ⟨by rw [hU]; exact (kP_app.mpr ⟨(kP_app.mp (kP_app.mp hP).2).1, (kP_app.mpr ⟨(kP_app.mp (kP_app.mp (kP_app.mp hP).2).2).1, (kP_app.mpr ⟨(kP_app.mp (kP_app.mp (kP_app.mp (kP_app.mp hP).2).2).2).1, (kP_app.mpr ⟨(kP_app.mp (kP_app.mp (kP_app.mp (kP_app.mp (kP_app.mp hP).2).2).2).2).1, (kP_app.mpr ⟨(kP_app.mp (kP_app.mp (kP_app.mp (kP_app.mp (kP_app.mp (kP_app.mp hP).2).2).2).2).2).1, (kP_app.mpr ⟨(kP_app.mp (kP_app.mp (kP_app.mp (kP_app.mp (kP_app.mp (kP_app.mp (kP_app.mp hP).2).2).2).2).2).2).1, (kP_mem.mpr (fun _ h => absurd h List.not_mem_nil))⟩)⟩)⟩)⟩)⟩)⟩), kK_warm hW hK⟩) ⟨rfl, rfl, Nat.le_of_ble_eq_true rfl, Nat.le_of_ble_eq_true rfl⟩ rfl hl.1 rfl (Nat.le_of_ble_eq_true rfl) dX2_thatFit_31 ⟨Nat.le_of_ble_eq_true rfl, Nat.le_of_ble_eq_true rfl⟩) ?_
          refine lv_if_eq (tgt := 46) hx hb dX2_thatFit_34 (by decide) (fun c3 => ?_) (fun c3 => ?_)
          · skip
            have c3 := b2i_0 c3
            refine lv_iinc (v := nI (n + 1)) (lv' := [(6, .int (nI (n + 1))), (0, .ref (u 0)), (1, .int (2)), (2, .ref (a 0)), (3, .int (who)), (4, .int (6)), (5, .int (setB (fun k => allF f3 who (fun n => fit2 f3 (nI k) n) N3) n))]) hx hb dX2_thatFit_46 hl (k := 6) rfl (inc_nI n) (by decide) rfl (fun ls hl => ?_)
            refine lv_goto (tgt := 19) hx hb dX2_thatFit_49 (by decide) ?_
            rw [setB_f (p := (fun k => allF f3 who (fun n => fit2 f3 (nI k) n) N3)) c3] at hl
            exact ih19 (n + 1) (by omega) (by omega) _ (lv_sub hl [1, 2, 3, 4, 5, 6, 0] rfl)
          · skip
            have c3 := b2i_1 c3
            refine lv_iload hx hb dX2_thatFit_37 (lv_at hl 5 rfl) ?_
            refine lv_iconst (v := 1) hx hb dX2_thatFit_39 rfl ?_
            refine lv_iload hx hb dX2_thatFit_40 (lv_at hl 6 rfl) ?_
            refine lv_ishl hx hb dX2_thatFit_42 ?_
            refine lv_ior hx hb dX2_thatFit_43 ?_
            refine top_i (x := (setB (fun k => allF f3 who (fun n => fit2 f3 (nI k) n) N3) n) ||| (1 <<< ((nI n) &&& 31))) (y := setB (fun k => allF f3 who (fun n => fit2 f3 (nI k) n) N3) (n + 1)) (setB_t (p := (fun k => allF f3 who (fun n => fit2 f3 (nI k) n) N3)) c3) ?_
            refine lv_istore (lv' := [(5, .int (setB (fun k => allF f3 who (fun n => fit2 f3 (nI k) n) N3) (n + 1))), (0, .ref (u 0)), (1, .int (2)), (2, .ref (a 0)), (3, .int (who)), (4, .int (6)), (6, .int (nI n))]) hx hb dX2_thatFit_44 hl (by decide) rfl (fun ls hl => ?_)
            refine lv_iinc (v := nI (n + 1)) (lv' := [(6, .int (nI (n + 1))), (5, .int (setB (fun k => allF f3 who (fun n => fit2 f3 (nI k) n) N3) (n + 1))), (0, .ref (u 0)), (1, .int (2)), (2, .ref (a 0)), (3, .int (who)), (4, .int (6))]) hx hb dX2_thatFit_46 hl (k := 6) rfl (inc_nI n) (by decide) rfl (fun ls hl => ?_)
            refine lv_goto (tgt := 19) hx hb dX2_thatFit_49 (by decide) ?_
            exact ih19 (n + 1) (by omega) (by omega) _ (lv_sub hl [2, 3, 4, 5, 6, 1, 0] rfl)
    exact cut19 _ 0 (Nat.lt_succ_self _) (by omega) _ (lv_sub hl [3, 4, 5, 6, 2, 1, 0] rfl)
  · skip
    exact absurd c1 (by decide)
set_option maxHeartbeats 4000000 in
set_option maxRecDepth 100000 in
theorem kX2_answerOf_0 (l : Launch) (g : gG) (a : Nat → Nat) (r : Nat → Int32) (who c : Int32) (L : Nat) (hw : Wf r) (hL : L < 210) (hc : bd c 0 9) : Met l yX2_answerOf (.code yX2_answerOf cX2_answerOf 8 (some .int) :: gw) (rmN 4) (va_Pc [.int (0), .ref (a 0), .int (who), .int (c), .int (nI L)] (roPre g (yW g a r))) (vp_Si (fun v => v = (crk (yFact r who 1) c (nI (L % 10)) (nI (L / 10)) (yNext r)))) 0 0 (fun _ => False) := by
  refine met_start (by decide) (Nat.le_of_ble_eq_true rfl) ?_
  intro pp ee ss mm bl mt cd hC hpre ls hl
  obtain ⟨⟨hx, hb, hml, hown, hts⟩, hr, hlk, hnm⟩ := id hC
  have hl : lv_has ls 8 [(0, .int (0)), (1, .ref (a 0)), (2, .int (who)), (3, .int (c)), (4, .int (nI L))] := hl
  obtain ⟨hP, hK⟩ := hpre
  refine lv_iload hx hb dX2_answerOf_0 (lv_at hl 4 rfl) ?_
  refine lv_bipush (v := 10) hx hb dX2_answerOf_2 rfl ?_
  refine lv_idiv hx hb dX2_answerOf_4 (by decide) ?_
  refine top_i (x := (nI L) / 10) (y := nI (L / 10)) (pk_div (d := 10) (by omega) (by omega) (by omega)) ?_
  refine lv_istore (lv' := [(5, .int (nI (L / 10))), (0, .int (0)), (1, .ref (a 0)), (2, .int (who)), (3, .int (c)), (4, .int (nI L))]) hx hb dX2_answerOf_5 hl (by decide) rfl (fun ls hl => ?_)
  refine lv_iload hx hb dX2_answerOf_7 (lv_at hl 5 rfl) ?_
  refine lv_bipush (v := 10) hx hb dX2_answerOf_9 rfl ?_
  refine lv_irem hx hb dX2_answerOf_11 (by decide) ?_
  refine top_i (x := (nI L) - (nI L) / 10 * 10) (y := nI (L % 10)) (pk_rem (d := 10) (by omega) (by omega) (by omega)) ?_
  refine lv_istore (lv' := [(6, .int (nI (L % 10))), (5, .int (nI (L / 10))), (0, .int (0)), (1, .ref (a 0)), (2, .int (who)), (3, .int (c)), (4, .int (nI L))]) hx hb dX2_answerOf_12 hl (by decide) rfl (fun ls hl => ?_)
  refine lv_aload_n hx hb dX2_answerOf_14 rfl (lv_at hl 3 rfl) ?_
  refine ro_i (run_V (As := []) (rest := []) hC.1 ckX7_nextNumber (kX7_nextNumber l g a r hw.num) (gw_in m_793 rfl) (fb_ro _ _ _) (va_recv hK.1 hP (q0 := 0) rfl rfl) (fun U hU hW => ⟨by rw [hU]; exact hP, kK_warm hW hK⟩) ⟨rfl, rfl, Nat.le_of_ble_eq_true rfl, Nat.le_of_ble_eq_true rfl⟩ rfl hl.1 rfl (Nat.le_of_ble_eq_true rfl) dX2_answerOf_15 ⟨Nat.le_of_ble_eq_true rfl, Nat.le_of_ble_eq_true rfl⟩) ?_
  refine lv_istore (lv' := [(7, .int (yNext r)), (6, .int (nI (L % 10))), (5, .int (nI (L / 10))), (0, .int (0)), (1, .ref (a 0)), (2, .int (who)), (3, .int (c)), (4, .int (nI L))]) hx hb dX2_answerOf_18 hl (by decide) rfl (fun ls hl => ?_)
  refine lv_iload_n hx hb dX2_answerOf_20 rfl (lv_at hl 3 rfl) ?_
  refine lv_lookup (x := 0) (tgt := 48) hx hb dX2_answerOf_21 (by decide) rfl (by decide) ?_
  refine lv_aload_n hx hb dX2_answerOf_48 rfl (lv_at hl 4 rfl) ?_
  refine lv_iload_n hx hb dX2_answerOf_49 rfl (lv_at hl 5 rfl) ?_
  refine lv_iconst (v := 1) hx hb dX2_answerOf_50 rfl ?_
  refine ro_i (run_V (As := [.int (who), .int (1)]) (rest := []) hC.1 ckX7_fact (kX7_fact l g a r who 1 hw) (gw_in m_773 rfl) (fb_ro _ _ _) (va_recv hK.1 hP (q0 := 0) rfl rfl) (fun U hU hW => ⟨by rw [hU]; exact hP, kK_warm hW hK⟩) ⟨rfl, rfl, Nat.le_of_ble_eq_true rfl, Nat.le_of_ble_eq_true rfl⟩ rfl hl.1 rfl (Nat.le_of_ble_eq_true rfl) dX2_answerOf_51 ⟨Nat.le_of_ble_eq_true rfl, Nat.le_of_ble_eq_true rfl⟩) ?_
  refine lv_iload_n hx hb dX2_answerOf_54 rfl (lv_at hl 6 rfl) ?_
  refine lv_iload hx hb dX2_answerOf_55 (lv_at hl 1 rfl) ?_
  refine lv_iload hx hb dX2_answerOf_57 (lv_at hl 2 rfl) ?_
  refine lv_iload hx hb dX2_answerOf_59 (lv_at hl 0 rfl) ?_
  refine ro_i (run_S (As := [.int (yFact r who 1), .int (c), .int (nI (L % 10)), .int (nI (L / 10)), .int (yNext r)]) (rest := []) hC.1 ckX0_cracks (kX0_cracks l (yFact r who 1) c (nI (L % 10)) (nI (L / 10)) (yNext r) hc (by unfold bd; rw [nI_ti (by omega)]; omega)) (gw_in m_774 rfl) (fb_nil _) (fun _ _ _ => trivial) ⟨rfl, rfl, Nat.le_of_ble_eq_true rfl, Nat.le_of_ble_eq_true rfl⟩ rfl hl.1 rfl (Nat.le_of_ble_eq_true rfl) dX2_answerOf_61 ⟨Nat.le_of_ble_eq_true rfl, Nat.le_of_ble_eq_true rfl⟩) ?_
  exact ret_roi hx hb hr hlk (by rfl) dX2_answerOf_64
set_option maxHeartbeats 4000000 in
set_option maxRecDepth 100000 in
theorem kX2_answerOf_1 (l : Launch) (g : gG) (a : Nat → Nat) (r : Nat → Int32) (who c : Int32) (L : Nat) (hw : Wf r) (hL : L < 210) (hn : yNut r who = true) : Met l yX2_answerOf (.code yX2_answerOf cX2_answerOf 8 (some .int) :: gw) (rmN 4) (va_Pc [.int (1), .ref (a 0), .int (who), .int (c), .int (nI L)] (roPre g (yW g a r))) (vp_Si (fun v => v = (crk c (yFact r who 2) (nI (L % 10)) (nI (L / 10)) (yNext r)))) 0 0 (fun _ => False) := by
  refine met_start (by decide) (Nat.le_of_ble_eq_true rfl) ?_
  intro pp ee ss mm bl mt cd hC hpre ls hl
  obtain ⟨⟨hx, hb, hml, hown, hts⟩, hr, hlk, hnm⟩ := id hC
  have hl : lv_has ls 8 [(0, .int (1)), (1, .ref (a 0)), (2, .int (who)), (3, .int (c)), (4, .int (nI L))] := hl
  obtain ⟨hP, hK⟩ := hpre
  refine lv_iload hx hb dX2_answerOf_0 (lv_at hl 4 rfl) ?_
  refine lv_bipush (v := 10) hx hb dX2_answerOf_2 rfl ?_
  refine lv_idiv hx hb dX2_answerOf_4 (by decide) ?_
  refine top_i (x := (nI L) / 10) (y := nI (L / 10)) (pk_div (d := 10) (by omega) (by omega) (by omega)) ?_
  refine lv_istore (lv' := [(5, .int (nI (L / 10))), (0, .int (1)), (1, .ref (a 0)), (2, .int (who)), (3, .int (c)), (4, .int (nI L))]) hx hb dX2_answerOf_5 hl (by decide) rfl (fun ls hl => ?_)
  refine lv_iload hx hb dX2_answerOf_7 (lv_at hl 5 rfl) ?_
  refine lv_bipush (v := 10) hx hb dX2_answerOf_9 rfl ?_
  refine lv_irem hx hb dX2_answerOf_11 (by decide) ?_
  refine top_i (x := (nI L) - (nI L) / 10 * 10) (y := nI (L % 10)) (pk_rem (d := 10) (by omega) (by omega) (by omega)) ?_
  refine lv_istore (lv' := [(6, .int (nI (L % 10))), (5, .int (nI (L / 10))), (0, .int (1)), (1, .ref (a 0)), (2, .int (who)), (3, .int (c)), (4, .int (nI L))]) hx hb dX2_answerOf_12 hl (by decide) rfl (fun ls hl => ?_)
  refine lv_aload_n hx hb dX2_answerOf_14 rfl (lv_at hl 3 rfl) ?_
  refine ro_i (run_V (As := []) (rest := []) hC.1 ckX7_nextNumber (kX7_nextNumber l g a r hw.num) (gw_in m_793 rfl) (fb_ro _ _ _) (va_recv hK.1 hP (q0 := 0) rfl rfl) (fun U hU hW => ⟨by rw [hU]; exact hP, kK_warm hW hK⟩) ⟨rfl, rfl, Nat.le_of_ble_eq_true rfl, Nat.le_of_ble_eq_true rfl⟩ rfl hl.1 rfl (Nat.le_of_ble_eq_true rfl) dX2_answerOf_15 ⟨Nat.le_of_ble_eq_true rfl, Nat.le_of_ble_eq_true rfl⟩) ?_
  refine lv_istore (lv' := [(7, .int (yNext r)), (6, .int (nI (L % 10))), (5, .int (nI (L / 10))), (0, .int (1)), (1, .ref (a 0)), (2, .int (who)), (3, .int (c)), (4, .int (nI L))]) hx hb dX2_answerOf_18 hl (by decide) rfl (fun ls hl => ?_)
  refine lv_iload_n hx hb dX2_answerOf_20 rfl (lv_at hl 3 rfl) ?_
  refine lv_lookup (x := 1) (tgt := 65) hx hb dX2_answerOf_21 (by decide) rfl (by decide) ?_
  refine lv_iload_n hx hb dX2_answerOf_65 rfl (lv_at hl 6 rfl) ?_
  refine lv_aload_n hx hb dX2_answerOf_66 rfl (lv_at hl 4 rfl) ?_
  refine lv_iload_n hx hb dX2_answerOf_67 rfl (lv_at hl 5 rfl) ?_
  refine lv_iconst (v := 2) hx hb dX2_answerOf_68 rfl ?_
  refine ro_i (run_V (As := [.int (who), .int (2)]) (rest := [.int (c)]) hC.1 ckX7_fact (kX7_fact l g a r who 2 hw) (gw_in m_773 rfl) (fb_ro _ _ _) (va_recv hK.1 hP (q0 := 0) rfl rfl) (fun U hU hW => ⟨by rw [hU]; exact hP, kK_warm hW hK⟩) ⟨rfl, rfl, Nat.le_of_ble_eq_true rfl, Nat.le_of_ble_eq_true rfl⟩ rfl hl.1 rfl (Nat.le_of_ble_eq_true rfl) dX2_answerOf_69 ⟨Nat.le_of_ble_eq_true rfl, Nat.le_of_ble_eq_true rfl⟩) ?_
  refine lv_iload hx hb dX2_answerOf_72 (lv_at hl 1 rfl) ?_
  refine lv_iload hx hb dX2_answerOf_74 (lv_at hl 2 rfl) ?_
  refine lv_iload hx hb dX2_answerOf_76 (lv_at hl 0 rfl) ?_
  refine ro_i (run_S (As := [.int (c), .int (yFact r who 2), .int (nI (L % 10)), .int (nI (L / 10)), .int (yNext r)]) (rest := []) hC.1 ckX0_cracks (kX0_cracks l c (yFact r who 2) (nI (L % 10)) (nI (L / 10)) (yNext r) (yFact2_bd hw hn) (by unfold bd; rw [nI_ti (by omega)]; omega)) (gw_in m_774 rfl) (fb_nil _) (fun _ _ _ => trivial) ⟨rfl, rfl, Nat.le_of_ble_eq_true rfl, Nat.le_of_ble_eq_true rfl⟩ rfl hl.1 rfl (Nat.le_of_ble_eq_true rfl) dX2_answerOf_78 ⟨Nat.le_of_ble_eq_true rfl, Nat.le_of_ble_eq_true rfl⟩) ?_
  exact ret_roi hx hb hr hlk (by rfl) dX2_answerOf_81
set_option maxHeartbeats 4000000 in
set_option maxRecDepth 100000 in
theorem kX2_answerOf_2 (l : Launch) (g : gG) (a : Nat → Nat) (r : Nat → Int32) (who c : Int32) (L : Nat) (hw : Wf r) (hL : L < 210) : Met l yX2_answerOf (.code yX2_answerOf cX2_answerOf 8 (some .int) :: gw) (rmN 4) (va_Pc [.int (2), .ref (a 0), .int (who), .int (c), .int (nI L)] (roPre g (yW g a r))) (vp_Si (fun v => v = (frc c (yPF r who 1) (nI (L % 10)) (nI (L / 10))))) 0 0 (fun _ => False) := by
  refine met_start (by decide) (Nat.le_of_ble_eq_true rfl) ?_
  intro pp ee ss mm bl mt cd hC hpre ls hl
  obtain ⟨⟨hx, hb, hml, hown, hts⟩, hr, hlk, hnm⟩ := id hC
  have hl : lv_has ls 8 [(0, .int (2)), (1, .ref (a 0)), (2, .int (who)), (3, .int (c)), (4, .int (nI L))] := hl
  obtain ⟨hP, hK⟩ := hpre
  refine lv_iload hx hb dX2_answerOf_0 (lv_at hl 4 rfl) ?_
  refine lv_bipush (v := 10) hx hb dX2_answerOf_2 rfl ?_
  refine lv_idiv hx hb dX2_answerOf_4 (by decide) ?_
  refine top_i (x := (nI L) / 10) (y := nI (L / 10)) (pk_div (d := 10) (by omega) (by omega) (by omega)) ?_
  refine lv_istore (lv' := [(5, .int (nI (L / 10))), (0, .int (2)), (1, .ref (a 0)), (2, .int (who)), (3, .int (c)), (4, .int (nI L))]) hx hb dX2_answerOf_5 hl (by decide) rfl (fun ls hl => ?_)
  refine lv_iload hx hb dX2_answerOf_7 (lv_at hl 5 rfl) ?_
  refine lv_bipush (v := 10) hx hb dX2_answerOf_9 rfl ?_
  refine lv_irem hx hb dX2_answerOf_11 (by decide) ?_
  refine top_i (x := (nI L) - (nI L) / 10 * 10) (y := nI (L % 10)) (pk_rem (d := 10) (by omega) (by omega) (by omega)) ?_
  refine lv_istore (lv' := [(6, .int (nI (L % 10))), (5, .int (nI (L / 10))), (0, .int (2)), (1, .ref (a 0)), (2, .int (who)), (3, .int (c)), (4, .int (nI L))]) hx hb dX2_answerOf_12 hl (by decide) rfl (fun ls hl => ?_)
  refine lv_aload_n hx hb dX2_answerOf_14 rfl (lv_at hl 3 rfl) ?_
  refine ro_i (run_V (As := []) (rest := []) hC.1 ckX7_nextNumber (kX7_nextNumber l g a r hw.num) (gw_in m_793 rfl) (fb_ro _ _ _) (va_recv hK.1 hP (q0 := 0) rfl rfl) (fun U hU hW => ⟨by rw [hU]; exact hP, kK_warm hW hK⟩) ⟨rfl, rfl, Nat.le_of_ble_eq_true rfl, Nat.le_of_ble_eq_true rfl⟩ rfl hl.1 rfl (Nat.le_of_ble_eq_true rfl) dX2_answerOf_15 ⟨Nat.le_of_ble_eq_true rfl, Nat.le_of_ble_eq_true rfl⟩) ?_
  refine lv_istore (lv' := [(7, .int (yNext r)), (6, .int (nI (L % 10))), (5, .int (nI (L / 10))), (0, .int (2)), (1, .ref (a 0)), (2, .int (who)), (3, .int (c)), (4, .int (nI L))]) hx hb dX2_answerOf_18 hl (by decide) rfl (fun ls hl => ?_)
  refine lv_iload_n hx hb dX2_answerOf_20 rfl (lv_at hl 3 rfl) ?_
  refine lv_lookup (x := 2) (tgt := 82) hx hb dX2_answerOf_21 (by decide) rfl (by decide) ?_
  refine lv_iload_n hx hb dX2_answerOf_82 rfl (lv_at hl 6 rfl) ?_
  refine lv_aload_n hx hb dX2_answerOf_83 rfl (lv_at hl 4 rfl) ?_
  refine lv_iload_n hx hb dX2_answerOf_84 rfl (lv_at hl 5 rfl) ?_
  refine lv_iconst (v := 1) hx hb dX2_answerOf_85 rfl ?_
  refine ro_i (run_V (As := [.int (who), .int (1)]) (rest := [.int (c)]) hC.1 ckX7_playerFact (kX7_playerFact l g a r who 1 hw) (gw_in m_794 rfl) (fb_ro _ _ _) (va_recv hK.1 hP (q0 := 0) rfl rfl) (fun U hU hW => ⟨by rw [hU]; exact hP, kK_warm hW hK⟩) ⟨rfl, rfl, Nat.le_of_ble_eq_true rfl, Nat.le_of_ble_eq_true rfl⟩ rfl hl.1 rfl (Nat.le_of_ble_eq_true rfl) dX2_answerOf_86 ⟨Nat.le_of_ble_eq_true rfl, Nat.le_of_ble_eq_true rfl⟩) ?_
  refine lv_iload hx hb dX2_answerOf_89 (lv_at hl 1 rfl) ?_
  refine lv_iload hx hb dX2_answerOf_91 (lv_at hl 2 rfl) ?_
  refine ro_i (run_S (As := [.int (c), .int (yPF r who 1), .int (nI (L % 10)), .int (nI (L / 10))]) (rest := []) hC.1 ckX0_force (kX0_force l c (yPF r who 1) (nI (L % 10)) (nI (L / 10))) (gw_in m_775 rfl) (fb_nil _) (fun _ _ _ => trivial) ⟨rfl, rfl, Nat.le_of_ble_eq_true rfl, Nat.le_of_ble_eq_true rfl⟩ rfl hl.1 rfl (Nat.le_of_ble_eq_true rfl) dX2_answerOf_93 ⟨Nat.le_of_ble_eq_true rfl, Nat.le_of_ble_eq_true rfl⟩) ?_
  exact ret_roi hx hb hr hlk (by rfl) dX2_answerOf_96
