theorem ckX6_meetRest : ckV yX6_meetRest cX6_meetRest 7 none 3 := ⟨(gw_in m_689 rfl), (gw_in m_69 rfl), ⟨(gw_in m_688 rfl), (gw_in m_22 rfl)⟩, by decide +kernel, by decide +kernel, by decide +kernel⟩
set_option maxHeartbeats 4000000 in
set_option maxRecDepth 100000 in
theorem kX6_meetRest_5 (l : Launch) (g : gG) (t c : Nat → Nat) (sx : Nat → Nat → Nat) (bs bc : Int32) (p1 p2 p3 p4 p5 r5 : Nat → Int32) (i tm : Int32) (hw : Wf r5) : Met l yX6_meetRest (.code yX6_meetRest cX6_meetRest 7 none :: gw) (rmN 5) (va_Pc [.ref (t 0), .int (i), .int (tm), .int (5)] (rwPre g (tW g t (c 0) (fun k => sx k 0) bs bc p1 p2 p3 p4 p5 ++ (yW g (sx 5) r5 ++ [])))) (rwQv g (tW g t (c 0) (fun k => sx k 0) bs bc p1 p2 p3 p4 p5 ++ (yW g (sx 5) r5 ++ [])) (tW g t (c 0) (fun k => sx k 0) (mtF i 0 5 r5 tm (bs, bc, p1, p2)).1 (mtF i 0 5 r5 tm (bs, bc, p1, p2)).2.1 (mtF i 0 5 r5 tm (bs, bc, p1, p2)).2.2.1 (mtF i 0 5 r5 tm (bs, bc, p1, p2)).2.2.2 p3 p4 p5 ++ (yW g (sx 5) r5 ++ []))) 0 0 (dm (tW g t (c 0) (fun k => sx k 0) bs bc p1 p2 p3 p4 p5 ++ (yW g (sx 5) r5 ++ []))) := by
  refine met_start (by decide) (Nat.le_of_ble_eq_true rfl) ?_
  intro pp ee ss mm bl mt cd hC hpre ls hl
  obtain ⟨⟨hx, hb, hml, hown, hts⟩, hr, hlk, hnm⟩ := id hC
  have hl : lv_has ls 7 [(0, .ref (t 0)), (1, .int (i)), (2, .int (tm)), (3, .int (5))] := hl
  obtain ⟨hP, hK, hD⟩ := hpre
  have hS : va_S (dm (tW g t (c 0) (fun k => sx k 0) bs bc p1 p2 p3 p4 p5 ++ (yW g (sx 5) r5 ++ []))) ss.heap ss.heap [] := va_S.rf
  have hD := vD_self hD
  refine lv_iload_n hx hb dX6_meetRest_0 rfl (lv_at hl 3 rfl) ?_
  refine lv_iconst (v := 0) hx hb dX6_meetRest_1 rfl ?_
  refine lv_iconst (v := 5) hx hb dX6_meetRest_2 rfl ?_
  refine ro_i (run_SN (As := [.int (5), .int (0), .int (5)]) (rest := []) hC.1 ckX8_within (kX8_within l 5 0 5) (hK.2.2 _ _ _ _ m_690) (fb_nil _) (fun _ _ _ => trivial) ⟨rfl, rfl, Nat.le_of_ble_eq_true rfl, Nat.le_of_ble_eq_true rfl⟩ rfl hl.1 rfl (Nat.le_of_ble_eq_true rfl) dX6_meetRest_3 ⟨Nat.le_of_ble_eq_true rfl, Nat.le_of_ble_eq_true rfl⟩) ?_
  refine lv_if_ne (tgt := 10) hx hb dX6_meetRest_6 (by decide) (fun c1 => ?_) (fun c1 => ?_)
  · skip
    have c1 := b2i_1 c1
    refine lv_aload_n hx hb dX6_meetRest_10 rfl (lv_at hl 0 rfl) ?_
    refine kget hC.1 hK (kP_app.mp hP).1 0 rfl rfl in_6 3 (by decide) (gw_in m_247 rfl) rfl dX6_meetRest_11 ?_
    refine lv_iload_n hx hb dX6_meetRest_14 rfl (lv_at hl 3 rfl) ?_
    refine kaldq (v := .ref ((sx 5) 0)) 3 hC.1 hK (kP_app.mp hP).1 1 rfl rfl (show vp_in (nI 5) 6 from vp_in_nI (by omega) (by omega)) rfl dX6_meetRest_15 ?_
    refine lv_astore (lv' := [(4, .ref ((sx 5) 0)), (0, .ref (t 0)), (1, .int (i)), (2, .int (tm)), (3, .int (5))]) hx hb dX6_meetRest_16 hl (by decide) rfl (fun ls hl => ?_)
    refine lv_aload hx hb dX6_meetRest_18 (lv_at hl 0 rfl) ?_
    refine lv_ifnonnull (tgt := 24) hx hb dX6_meetRest_20 (by decide) ?_
    refine lv_iload_n hx hb dX6_meetRest_24 rfl (lv_at hl 3 rfl) ?_
    refine lv_if_ne (tgt := 47) hx hb dX6_meetRest_25 (by decide) (fun c2 => ?_) (fun c2 => ?_)
    · skip
      have htm := c2
      refine lv_iload_n hx hb dX6_meetRest_47 rfl (lv_at hl 4 rfl) ?_
      refine lv_iconst (v := 1) hx hb dX6_meetRest_48 rfl ?_
      refine lv_iadd hx hb dX6_meetRest_49 ?_
      refine top_i (x := 5 + 1) (y := 6) (by decide) ?_
      refine lv_bipush (v := 6) hx hb dX6_meetRest_50 rfl ?_
      refine lv_icmp_ge (tgt := 66) hx hb dX6_meetRest_52 (by decide) (fun c3 => ?_) (fun c3 => ?_)
      · skip
        refine lv_null hx hb dX6_meetRest_66 ?_
        refine lv_astoreN (lv' := [(5, .null), (4, .ref ((sx 5) 0)), (0, .ref (t 0)), (1, .int (i)), (2, .int (tm)), (3, .int (5))]) hx hb dX6_meetRest_67 hl (by decide) rfl (fun ls hl => ?_)
        refine lv_aloadN hx hb dX6_meetRest_69 (lv_at hl 0 rfl) ?_
        refine lv_ifnonnullN hx hb dX6_meetRest_71 ?_
        exact ret_rwv hx hb hr hlk (kP_eq (by rw [mtF_z htm]) hP) hS dX6_meetRest_74
      · skip
        exact absurd c3 (by decide)
    · skip
      have htm := c2
      refine lv_aload_n hx hb dX6_meetRest_28 rfl (lv_at hl 1 rfl) ?_
      refine lv_aload hx hb dX6_meetRest_29 (lv_at hl 0 rfl) ?_
      refine lv_iload_n hx hb dX6_meetRest_31 rfl (lv_at hl 2 rfl) ?_
      refine lv_iconst (v := 5) hx hb dX6_meetRest_32 rfl ?_
      refine ro_i (run_V (As := [.int (i), .int (5)]) (rest := [.ref (t 0)]) hC.1 ckX7_fact (kX7_fact l g (sx 5) r5 i 5 hw) (gw_in m_691 rfl) (fb_ro _ _ _) (va_recv hK.1 (kP_app.mp (kP_app.mp hP).2).1 (q0 := 0) rfl rfl) (fun U hU hW => ⟨by rw [hU]; exact (kP_app.mp (kP_app.mp hP).2).1, kK_warm hW hK⟩) ⟨rfl, rfl, Nat.le_of_ble_eq_true rfl, Nat.le_of_ble_eq_true rfl⟩ rfl hl.1 rfl (Nat.le_of_ble_eq_true rfl) dX6_meetRest_33 ⟨Nat.le_of_ble_eq_true rfl, Nat.le_of_ble_eq_true rfl⟩) ?_
      refine lv_aload hx hb dX6_meetRest_36 (lv_at hl 0 rfl) ?_
      refine lv_iload_n hx hb dX6_meetRest_38 rfl (lv_at hl 2 rfl) ?_
      refine lv_iconst (v := 4) hx hb dX6_meetRest_39 rfl ?_
      refine ro_i (run_V (As := [.int (i), .int (4)]) (rest := [.int (yFact r5 i 5), .ref (t 0)]) hC.1 ckX7_fact (kX7_fact l g (sx 5) r5 i 4 hw) (gw_in m_691 rfl) (fb_ro _ _ _) (va_recv hK.1 (kP_app.mp (kP_app.mp hP).2).1 (q0 := 0) rfl rfl) (fun U hU hW => ⟨by rw [hU]; exact (kP_app.mp (kP_app.mp hP).2).1, kK_warm hW hK⟩) ⟨rfl, rfl, Nat.le_of_ble_eq_true rfl, Nat.le_of_ble_eq_true rfl⟩ rfl hl.1 rfl (Nat.le_of_ble_eq_true rfl) dX6_meetRest_40 ⟨Nat.le_of_ble_eq_true rfl, Nat.le_of_ble_eq_true rfl⟩) ?_
      refine rw_v (run_V (As := [.int (yFact r5 i 5), .int (yFact r5 i 4)]) (rest := []) hC.1 ckX6_keepIfBetter (kX6_keepIfBetter l g t c (fun k => sx k 0) bs bc p1 p2 p3 p4 p5 (yFact r5 i 5) (yFact r5 i 4)) (gw_in m_692 rfl) (fb_rw _ _ _) (va_recv hK.1 (kP_app.mp hP).1 (q0 := 0) rfl rfl) (fun U hU hW => ⟨by rw [hU]; exact (kP_app.mpr ⟨(kP_app.mp hP).1, kP_nil⟩), kK_warm hW hK, vD_sub (sbA _ (sb0 _)) hD⟩) ⟨rfl, rfl, Nat.le_of_ble_eq_true rfl, Nat.le_of_ble_eq_true rfl⟩ rfl hl.1 rfl (Nat.le_of_ble_eq_true rfl) dX6_meetRest_43 ⟨Nat.le_of_ble_eq_true rfl, Nat.le_of_ble_eq_true rfl⟩) (adr_app tW_adr rfl) (asc1 _ _) (ww' := tW g t (c 0) (fun k => sx k 0) (if kbB (yFact r5 i 5) (yFact r5 i 4) bs bc = true then (yFact r5 i 5) else bs) (if kbB (yFact r5 i 5) (yFact r5 i 4) bs bc = true then (yFact r5 i 4) else bc) p1 (if kbB (yFact r5 i 5) (yFact r5 i 4) bs bc = true then p1 else p2) p3 p4 p5 ++ (yW g (sx 5) r5 ++ [])) (asc1 _ _) hP hD hS (fun H locs hP hD hS => ?_)
      exact ret_rwv hx hb hr hlk (kP_eq (by simp only [mtF_0 htm, kbS]) hP) hS dX6_meetRest_46
  · skip
    have c1 := b2i_0 c1
    exact absurd (show wth 5 0 5 = true from by decide) (by rw [c1]; decide)
set_option maxHeartbeats 4000000 in
set_option maxRecDepth 100000 in
theorem kX6_meetRest_4 (l : Launch) (g : gG) (t c : Nat → Nat) (sx : Nat → Nat → Nat) (bs bc : Int32) (p1 p2 p3 p4 p5 r4 r5 : Nat → Int32) (i tm : Int32) (hw : Wf r4) (ha5 : Ag r4 r5) : Met l yX6_meetRest (.code yX6_meetRest cX6_meetRest 7 none :: gw) (rmN 6) (va_Pc [.ref (t 0), .int (i), .int (tm), .int (4)] (rwPre g (tW g t (c 0) (fun k => sx k 0) bs bc p1 p2 p3 p4 p5 ++ (yW g (sx 4) r4 ++ (yW g (sx 5) r5 ++ []))))) (rxQv g (tW g t (c 0) (fun k => sx k 0) bs bc p1 p2 p3 p4 p5 ++ (yW g (sx 4) r4 ++ (yW g (sx 5) r5 ++ []))) (fun u9 : ({z : Nat → Int32 // Ag r4 z}) => tW g t (c 0) (fun k => sx k 0) (mtF i 1 4 r4 tm (bs, bc, p1, p2)).1 (mtF i 1 4 r4 tm (bs, bc, p1, p2)).2.1 (mtF i 1 4 r4 tm (bs, bc, p1, p2)).2.2.1 (mtF i 1 4 r4 tm (bs, bc, p1, p2)).2.2.2 p3 p4 p5 ++ (yW g (sx 4) r4 ++ (yW g (sx 5) u9.1 ++ [])))) 0 0 (dm (tW g t (c 0) (fun k => sx k 0) bs bc p1 p2 p3 p4 p5 ++ (yW g (sx 4) r4 ++ (yW g (sx 5) r5 ++ [])))) := by
  refine met_start (by decide) (Nat.le_of_ble_eq_true rfl) ?_
  intro pp ee ss mm bl mt cd hC hpre ls hl
  obtain ⟨⟨hx, hb, hml, hown, hts⟩, hr, hlk, hnm⟩ := id hC
  have hl : lv_has ls 7 [(0, .ref (t 0)), (1, .int (i)), (2, .int (tm)), (3, .int (4))] := hl
  obtain ⟨hP, hK, hD⟩ := hpre
  have hS : va_S (dm (tW g t (c 0) (fun k => sx k 0) bs bc p1 p2 p3 p4 p5 ++ (yW g (sx 4) r4 ++ (yW g (sx 5) r5 ++ [])))) ss.heap ss.heap [] := va_S.rf
  have hD := vD_self hD
  refine lv_iload_n hx hb dX6_meetRest_0 rfl (lv_at hl 3 rfl) ?_
  refine lv_iconst (v := 0) hx hb dX6_meetRest_1 rfl ?_
  refine lv_iconst (v := 5) hx hb dX6_meetRest_2 rfl ?_
  refine ro_i (run_SN (As := [.int (4), .int (0), .int (5)]) (rest := []) hC.1 ckX8_within (kX8_within l 4 0 5) (hK.2.2 _ _ _ _ m_690) (fb_nil _) (fun _ _ _ => trivial) ⟨rfl, rfl, Nat.le_of_ble_eq_true rfl, Nat.le_of_ble_eq_true rfl⟩ rfl hl.1 rfl (Nat.le_of_ble_eq_true rfl) dX6_meetRest_3 ⟨Nat.le_of_ble_eq_true rfl, Nat.le_of_ble_eq_true rfl⟩) ?_
  refine lv_if_ne (tgt := 10) hx hb dX6_meetRest_6 (by decide) (fun c1 => ?_) (fun c1 => ?_)
  · skip
    have c1 := b2i_1 c1
    refine lv_aload_n hx hb dX6_meetRest_10 rfl (lv_at hl 0 rfl) ?_
    refine kget hC.1 hK (kP_app.mp hP).1 0 rfl rfl in_6 3 (by decide) (gw_in m_247 rfl) rfl dX6_meetRest_11 ?_
    refine lv_iload_n hx hb dX6_meetRest_14 rfl (lv_at hl 3 rfl) ?_
    refine kaldq (v := .ref ((sx 4) 0)) 3 hC.1 hK (kP_app.mp hP).1 1 rfl rfl (show vp_in (nI 4) 6 from vp_in_nI (by omega) (by omega)) rfl dX6_meetRest_15 ?_
    refine lv_astore (lv' := [(4, .ref ((sx 4) 0)), (0, .ref (t 0)), (1, .int (i)), (2, .int (tm)), (3, .int (4))]) hx hb dX6_meetRest_16 hl (by decide) rfl (fun ls hl => ?_)
    refine lv_aload hx hb dX6_meetRest_18 (lv_at hl 0 rfl) ?_
    refine lv_ifnonnull (tgt := 24) hx hb dX6_meetRest_20 (by decide) ?_
    refine lv_iload_n hx hb dX6_meetRest_24 rfl (lv_at hl 3 rfl) ?_
    refine lv_if_ne (tgt := 47) hx hb dX6_meetRest_25 (by decide) (fun c2 => ?_) (fun c2 => ?_)
    · skip
      have htm := c2
      refine lv_iload_n hx hb dX6_meetRest_47 rfl (lv_at hl 4 rfl) ?_
      refine lv_iconst (v := 1) hx hb dX6_meetRest_48 rfl ?_
      refine lv_iadd hx hb dX6_meetRest_49 ?_
      refine top_i (x := 4 + 1) (y := 5) (by decide) ?_
      refine lv_bipush (v := 6) hx hb dX6_meetRest_50 rfl ?_
      refine lv_icmp_ge (tgt := 66) hx hb dX6_meetRest_52 (by decide) (fun c3 => ?_) (fun c3 => ?_)
      · skip
        exact absurd c3 (by decide)
      · skip
        refine lv_aload_n hx hb dX6_meetRest_55 rfl (lv_at hl 1 rfl) ?_
        refine kget hC.1 hK (kP_app.mp hP).1 0 rfl rfl in_6 3 (by decide) (gw_in m_247 rfl) rfl dX6_meetRest_56 ?_
        refine lv_iload_n hx hb dX6_meetRest_59 rfl (lv_at hl 4 rfl) ?_
        refine lv_iconst (v := 1) hx hb dX6_meetRest_60 rfl ?_
        refine lv_iadd hx hb dX6_meetRest_61 ?_
        refine top_i (x := 4 + 1) (y := 5) (by decide) ?_
        refine kaldq (v := .ref ((sx 5) 0)) 3 hC.1 hK (kP_app.mp hP).1 1 rfl rfl (show vp_in (nI 5) 6 from vp_in_nI (by omega) (by omega)) rfl dX6_meetRest_62 ?_
        refine lv_goto (tgt := 67) hx hb dX6_meetRest_63 (by decide) ?_
        refine lv_astore (lv' := [(5, .ref ((sx 5) 0)), (4, .ref ((sx 4) 0)), (0, .ref (t 0)), (1, .int (i)), (2, .int (tm)), (3, .int (4))]) hx hb dX6_meetRest_67 hl (by decide) rfl (fun ls hl => ?_)
        refine lv_aload hx hb dX6_meetRest_69 (lv_at hl 0 rfl) ?_
        refine lv_ifnonnull (tgt := 75) hx hb dX6_meetRest_71 (by decide) ?_
        refine lv_iconst (v := 0) hx hb dX6_meetRest_75 rfl ?_
        refine lv_istore (lv' := [(6, .int (0)), (5, .ref ((sx 5) 0)), (4, .ref ((sx 4) 0)), (0, .ref (t 0)), (1, .int (i)), (2, .int (tm)), (3, .int (4))]) hx hb dX6_meetRest_76 hl (by decide) rfl (fun ls hl => ?_)
        have cut78 : ∀ kk : Nat, ∀ (n : Nat) (y5 : {z : Nat → Int32 // Ag r4 z}), 7 - n < kk → (hn : n ≤ 6) → ∀ (H : Heap) (locs : List Loc), kP g (tW g t (c 0) (fun k => sx k 0) (fld (mtS i 0 4 r4 tm) n (bs, bc, p1, p2)).1 (fld (mtS i 0 4 r4 tm) n (bs, bc, p1, p2)).2.1 (fld (mtS i 0 4 r4 tm) n (bs, bc, p1, p2)).2.2.1 (fld (mtS i 0 4 r4 tm) n (bs, bc, p1, p2)).2.2.2 p3 p4 p5 ++ (yW g (sx 4) r4 ++ (yW g (sx 5) y5.1 ++ []))) H → va_D (dm (tW g t (c 0) (fun k => sx k 0) bs bc p1 p2 p3 p4 p5 ++ (yW g (sx 4) r4 ++ (yW g (sx 5) r5 ++ [])))) (tW g t (c 0) (fun k => sx k 0) (fld (mtS i 0 4 r4 tm) n (bs, bc, p1, p2)).1 (fld (mtS i 0 4 r4 tm) n (bs, bc, p1, p2)).2.1 (fld (mtS i 0 4 r4 tm) n (bs, bc, p1, p2)).2.2.1 (fld (mtS i 0 4 r4 tm) n (bs, bc, p1, p2)).2.2.2 p3 p4 p5 ++ (yW g (sx 4) r4 ++ (yW g (sx 5) y5.1 ++ []))) → va_S (dm (tW g t (c 0) (fun k => sx k 0) bs bc p1 p2 p3 p4 p5 ++ (yW g (sx 4) r4 ++ (yW g (sx 5) r5 ++ [])))) ss.heap H locs → ∀ (ls : Array Slot), lv_has ls 7 [(0, .ref (t 0)), (1, .int (i)), (2, .int (tm)), (3, .int (4)), (4, .ref ((sx 4) 0)), (5, .ref ((sx 5) 0)), (6, .int (nI n))] → W pp l ee (rmN 6) ss mm ([.ref (t 0), .int (i), .int (tm), .int (4)] : List Value).toArray bl mt cd H locs 0 0 (MQ bl (rxQv g (tW g t (c 0) (fun k => sx k 0) bs bc p1 p2 p3 p4 p5 ++ (yW g (sx 4) r4 ++ (yW g (sx 5) r5 ++ []))) (fun u9 : ({z : Nat → Int32 // Ag r4 z}) => tW g t (c 0) (fun k => sx k 0) (mtF i 1 4 r4 tm (bs, bc, p1, p2)).1 (mtF i 1 4 r4 tm (bs, bc, p1, p2)).2.1 (mtF i 1 4 r4 tm (bs, bc, p1, p2)).2.2.1 (mtF i 1 4 r4 tm (bs, bc, p1, p2)).2.2.2 p3 p4 p5 ++ (yW g (sx 4) r4 ++ (yW g (sx 5) u9.1 ++ [])))) ([.ref (t 0), .int (i), .int (tm), .int (4)] : List Value).toArray ss 0 0 (dm (tW g t (c 0) (fun k => sx k 0) bs bc p1 p2 p3 p4 p5 ++ (yW g (sx 4) r4 ++ (yW g (sx 5) r5 ++ []))))) (F0 mm 78 ls []) := by
          intro kk
          induction kk with
          | zero => intro n y5 hmu; exact absurd hmu (Nat.not_lt_zero _)
          | succ kk ih78 =>
            intro n y5 hmu hn H locs hP hD hS ls hl
            refine lv_iload hx hb dX6_meetRest_78 (lv_at hl 6 rfl) ?_
            refine lv_bipush (v := 6) hx hb dX6_meetRest_80 rfl ?_
            refine lv_icmp_ge (tgt := 144) hx hb dX6_meetRest_82 (by decide) (fun c4 => ?_) (fun c4 => ?_)
            · skip
              have c4' := Int32.not_lt.mpr c4
              have hn9 : n = 6 := by have := lp_ge (by omega) c4; rw [show (6 : Int32).toInt = 6 from rfl] at this; omega
              subst hn9
              exact ret_rxv (S := ({z : Nat → Int32 // Ag r4 z})) y5 hx hb hr hlk (kP_eq (by rw [show mtF i 1 4 r4 tm (bs, bc, p1, p2) = fld (mtS i 0 4 r4 tm) 6 (bs, bc, p1, p2) from mtF_s (d := 0) htm]) hP) hS dX6_meetRest_144
            · skip
              have c4' := Int32.not_le.mp c4
              have hn9 : n < 6 := by have := lp_lt (by omega) c4; rw [show (6 : Int32).toInt = 6 from rfl] at this; omega
              refine lv_iload_n hx hb dX6_meetRest_85 rfl (lv_at hl 2 rfl) ?_
              refine lv_iload hx hb dX6_meetRest_86 (lv_at hl 6 rfl) ?_
              refine ro_i (run_SN (As := [.int (tm), .int (nI n)]) (rest := []) hC.1 ckX8_has (kX8_has l tm (nI n)) (hK.2.2 _ _ _ _ m_697) (fb_nil _) (fun _ _ _ => trivial) ⟨rfl, rfl, Nat.le_of_ble_eq_true rfl, Nat.le_of_ble_eq_true rfl⟩ rfl hl.1 rfl (Nat.le_of_ble_eq_true rfl) dX6_meetRest_88 ⟨Nat.le_of_ble_eq_true rfl, Nat.le_of_ble_eq_true rfl⟩) ?_
              refine lv_if_ne (tgt := 97) hx hb dX6_meetRest_91 (by decide) (fun c5 => ?_) (fun c5 => ?_)
              · skip
                have c5 := b2i_1 c5
                refine lv_aload_n hx hb dX6_meetRest_97 rfl (lv_at hl 0 rfl) ?_
                refine kget hC.1 hK (kP_app.mp hP).1 0 rfl rfl in_6 4 (by decide) (gw_in m_248 rfl) rfl dX6_meetRest_98 ?_
                refine lv_iload_n hx hb dX6_meetRest_101 rfl (lv_at hl 3 rfl) ?_
                refine lv_iload hx hb dX6_meetRest_102 (lv_at hl 6 rfl) ?_
                refine kast (B' := tW g t (c 0) (fun k => sx k 0) (fld (mtS i 0 4 r4 tm) n (bs, bc, p1, p2)).1 (fld (mtS i 0 4 r4 tm) n (bs, bc, p1, p2)).2.1 (upd (fld (mtS i 0 4 r4 tm) n (bs, bc, p1, p2)).2.2.1 4 (nI n)) (fld (mtS i 0 4 r4 tm) n (bs, bc, p1, p2)).2.2.2 p3 p4 p5) hC.1 hK hP hD hS 2 rfl (show vp_in (nI 4) 6 from vp_in_nI (by omega) (by omega)) (fun _ h => by rw [show cl 4 = 4 from by decide] at h; exact h) tW_adr dX6_meetRest_104 (fun H locs hP hD hS => ?_)
                refine lv_aload hx hb dX6_meetRest_105 (lv_at hl 5 rfl) ?_
                refine lv_aload hx hb dX6_meetRest_107 (lv_at hl 4 rfl) ?_
                have hP : kP g (yW g (sx 5) y5.1 ++ (yW g (sx 4) r4 ++ (tW g t (c 0) (fun k => sx k 0) (fld (mtS i 0 4 r4 tm) n (bs, bc, p1, p2)).1 (fld (mtS i 0 4 r4 tm) n (bs, bc, p1, p2)).2.1 (upd (fld (mtS i 0 4 r4 tm) n (bs, bc, p1, p2)).2.2.1 4 (nI n)) (fld (mtS i 0 4 r4 tm) n (bs, bc, p1, p2)).2.2.2 p3 p4 p5 ++ []))) _ := kP_perm (((pmA _ (pm_swap _ _ _)).trans (pm_swap _ _ _)).trans (pmA _ (pm_swap _ _ _))) hP
                have hD : va_D _ (yW g (sx 5) y5.1 ++ (yW g (sx 4) r4 ++ (tW g t (c 0) (fun k => sx k 0) (fld (mtS i 0 4 r4 tm) n (bs, bc, p1, p2)).1 (fld (mtS i 0 4 r4 tm) n (bs, bc, p1, p2)).2.1 (upd (fld (mtS i 0 4 r4 tm) n (bs, bc, p1, p2)).2.2.1 4 (nI n)) (fld (mtS i 0 4 r4 tm) n (bs, bc, p1, p2)).2.2.2 p3 p4 p5 ++ []))) := vD_perm (((pmA _ (pm_swap _ _ _)).trans (pm_swap _ _ _)).trans (pmA _ (pm_swap _ _ _))) hD
                refine rw_v (run_V (As := [.ref ((sx 4) 0)]) (rest := []) hC.1 ckX7_copyChangesOf (kX7_copyChangesOf l g (sx 5) (sx 4) y5.1 r4) (gw_in m_700 rfl) (fb_rw _ _ _) (va_recv hK.1 (kP_app.mp hP).1 (q0 := 0) rfl rfl) (fun U hU hW => ⟨by rw [hU]; exact (kP_app.mpr ⟨(kP_app.mp hP).1, (kP_app.mpr ⟨(kP_app.mp (kP_app.mp hP).2).1, kP_nil⟩)⟩), kK_warm hW hK, vD_sub (sbA _ (sbA _ (sb0 _))) hD⟩) ⟨rfl, rfl, Nat.le_of_ble_eq_true rfl, Nat.le_of_ble_eq_true rfl⟩ rfl hl.1 rfl (Nat.le_of_ble_eq_true rfl) dX6_meetRest_109 ⟨Nat.le_of_ble_eq_true rfl, Nat.le_of_ble_eq_true rfl⟩) (adr_app yW_adr (adr_app rfl rfl)) (asc2 _ _ _) (ww' := yW g (sx 5) (chg y5.1 r4) ++ (yW g (sx 4) r4 ++ (tW g t (c 0) (fun k => sx k 0) (fld (mtS i 0 4 r4 tm) n (bs, bc, p1, p2)).1 (fld (mtS i 0 4 r4 tm) n (bs, bc, p1, p2)).2.1 (upd (fld (mtS i 0 4 r4 tm) n (bs, bc, p1, p2)).2.2.1 4 (nI n)) (fld (mtS i 0 4 r4 tm) n (bs, bc, p1, p2)).2.2.2 p3 p4 p5 ++ []))) (asc2 _ _ _) hP hD hS (fun H locs hP hD hS => ?_)
                rw [show (chg y5.1 r4) = r4 from chg_ag y5.2] at hP hD
                refine lv_aload hx hb dX6_meetRest_112 (lv_at hl 5 rfl) ?_
                refine lv_iload_n hx hb dX6_meetRest_114 rfl (lv_at hl 1 rfl) ?_
                refine lv_iload hx hb dX6_meetRest_115 (lv_at hl 6 rfl) ?_
                refine lv_iconst (v := 1) hx hb dX6_meetRest_117 rfl ?_
                refine rw_i (run_S (As := [.ref ((sx 5) 0), .int (i), .int (nI n), .int (1)]) (rest := []) hC.1 ckX6_fight (kX6_fight l g (sx 5) r4 i (nI n) true hw) (gw_in m_648 rfl) (fb_rw _ _ _) (fun U hU hW => ⟨by rw [hU]; exact (kP_app.mpr ⟨(kP_app.mp hP).1, kP_nil⟩), kK_warm hW hK, vD_sub (sbA _ (sb0 _)) hD⟩) ⟨rfl, rfl, Nat.le_of_ble_eq_true rfl, Nat.le_of_ble_eq_true rfl⟩ rfl hl.1 rfl (Nat.le_of_ble_eq_true rfl) dX6_meetRest_118 ⟨Nat.le_of_ble_eq_true rfl, Nat.le_of_ble_eq_true rfl⟩) (adr_app yW_adr rfl) (asc1 _ _) (ww' := yW g (sx 5) (fgt true i (nI n) 60 0 r4).2 ++ (yW g (sx 4) r4 ++ (tW g t (c 0) (fun k => sx k 0) (fld (mtS i 0 4 r4 tm) n (bs, bc, p1, p2)).1 (fld (mtS i 0 4 r4 tm) n (bs, bc, p1, p2)).2.1 (upd (fld (mtS i 0 4 r4 tm) n (bs, bc, p1, p2)).2.2.1 4 (nI n)) (fld (mtS i 0 4 r4 tm) n (bs, bc, p1, p2)).2.2.2 p3 p4 p5 ++ []))) (asc1 _ _) hP hD hS (fun H locs hP hD hS => ?_)
                refine lv_pop hx hb dX6_meetRest_121 rfl ?_
                refine lv_aload_n hx hb dX6_meetRest_122 rfl (lv_at hl 0 rfl) ?_
                refine lv_iload_n hx hb dX6_meetRest_123 rfl (lv_at hl 1 rfl) ?_
                refine lv_iload_n hx hb dX6_meetRest_124 rfl (lv_at hl 2 rfl) ?_
                refine lv_iconst (v := 1) hx hb dX6_meetRest_125 rfl ?_
                refine lv_iload hx hb dX6_meetRest_126 (lv_at hl 6 rfl) ?_
                refine lv_ishl hx hb dX6_meetRest_128 ?_
                refine top_i (x := 1 <<< ((nI n) &&& 31)) (y := (1 : Int32) <<< (nI n &&& 31)) rfl ?_
                refine lv_iconst (v := -1) hx hb dX6_meetRest_129 rfl ?_
                refine lv_ixor hx hb dX6_meetRest_130 ?_
                refine lv_iand hx hb dX6_meetRest_131 ?_
                refine lv_iload_n hx hb dX6_meetRest_132 rfl (lv_at hl 3 rfl) ?_
                refine lv_iconst (v := 1) hx hb dX6_meetRest_133 rfl ?_
                refine lv_iadd hx hb dX6_meetRest_134 ?_
                refine top_i (x := 4 + 1) (y := 5) (by decide) ?_
                have hP : kP g (tW g t (c 0) (fun k => sx k 0) (fld (mtS i 0 4 r4 tm) n (bs, bc, p1, p2)).1 (fld (mtS i 0 4 r4 tm) n (bs, bc, p1, p2)).2.1 (upd (fld (mtS i 0 4 r4 tm) n (bs, bc, p1, p2)).2.2.1 4 (nI n)) (fld (mtS i 0 4 r4 tm) n (bs, bc, p1, p2)).2.2.2 p3 p4 p5 ++ (yW g (sx 5) (fgt true i (nI n) 60 0 r4).2 ++ (yW g (sx 4) r4 ++ []))) _ := kP_perm ((pmA _ (pm_swap _ _ _)).trans (pm_swap _ _ _)) hP
                have hD : va_D _ (tW g t (c 0) (fun k => sx k 0) (fld (mtS i 0 4 r4 tm) n (bs, bc, p1, p2)).1 (fld (mtS i 0 4 r4 tm) n (bs, bc, p1, p2)).2.1 (upd (fld (mtS i 0 4 r4 tm) n (bs, bc, p1, p2)).2.2.1 4 (nI n)) (fld (mtS i 0 4 r4 tm) n (bs, bc, p1, p2)).2.2.2 p3 p4 p5 ++ (yW g (sx 5) (fgt true i (nI n) 60 0 r4).2 ++ (yW g (sx 4) r4 ++ []))) := vD_perm ((pmA _ (pm_swap _ _ _)).trans (pm_swap _ _ _)) hD
                refine rw_v (run_V (As := [.int (i), .int (tm &&& (((1 : Int32) <<< (nI n &&& 31)) ^^^ (-1))), .int (5)]) (rest := []) hC.1 ckX6_meetRest (kX6_meetRest_5 l g t c sx (fld (mtS i 0 4 r4 tm) n (bs, bc, p1, p2)).1 (fld (mtS i 0 4 r4 tm) n (bs, bc, p1, p2)).2.1 (upd (fld (mtS i 0 4 r4 tm) n (bs, bc, p1, p2)).2.2.1 4 (nI n)) (fld (mtS i 0 4 r4 tm) n (bs, bc, p1, p2)).2.2.2 p3 p4 p5 (fgt true i (nI n) 60 0 r4).2 i (tm &&& (((1 : Int32) <<< (nI n &&& 31)) ^^^ (-1))) (Wf_fgt hw)) (gw_in m_686 rfl) (fb_rw _ _ _) (va_recv hK.1 (kP_app.mp hP).1 (q0 := 0) rfl rfl) (fun U hU hW => ⟨by rw [hU]; exact (kP_app.mpr ⟨(kP_app.mp hP).1, (kP_app.mpr ⟨(kP_app.mp (kP_app.mp hP).2).1, kP_nil⟩)⟩), kK_warm hW hK, vD_sub (sbA _ (sbA _ (sb0 _))) hD⟩) ⟨rfl, rfl, Nat.le_of_ble_eq_true rfl, Nat.le_of_ble_eq_true rfl⟩ rfl hl.1 rfl (Nat.le_of_ble_eq_true rfl) dX6_meetRest_135 ⟨Nat.le_of_ble_eq_true rfl, Nat.le_of_ble_eq_true rfl⟩) (adr_app tW_adr (adr_app rfl rfl)) (asc2 _ _ _) (ww' := tW g t (c 0) (fun k => sx k 0) (mtF i 0 5 (fgt true i (nI n) 60 0 r4).2 (tm &&& (((1 : Int32) <<< (nI n &&& 31)) ^^^ (-1))) ((fld (mtS i 0 4 r4 tm) n (bs, bc, p1, p2)).1, (fld (mtS i 0 4 r4 tm) n (bs, bc, p1, p2)).2.1, (upd (fld (mtS i 0 4 r4 tm) n (bs, bc, p1, p2)).2.2.1 4 (nI n)), (fld (mtS i 0 4 r4 tm) n (bs, bc, p1, p2)).2.2.2)).1 (mtF i 0 5 (fgt true i (nI n) 60 0 r4).2 (tm &&& (((1 : Int32) <<< (nI n &&& 31)) ^^^ (-1))) ((fld (mtS i 0 4 r4 tm) n (bs, bc, p1, p2)).1, (fld (mtS i 0 4 r4 tm) n (bs, bc, p1, p2)).2.1, (upd (fld (mtS i 0 4 r4 tm) n (bs, bc, p1, p2)).2.2.1 4 (nI n)), (fld (mtS i 0 4 r4 tm) n (bs, bc, p1, p2)).2.2.2)).2.1 (mtF i 0 5 (fgt true i (nI n) 60 0 r4).2 (tm &&& (((1 : Int32) <<< (nI n &&& 31)) ^^^ (-1))) ((fld (mtS i 0 4 r4 tm) n (bs, bc, p1, p2)).1, (fld (mtS i 0 4 r4 tm) n (bs, bc, p1, p2)).2.1, (upd (fld (mtS i 0 4 r4 tm) n (bs, bc, p1, p2)).2.2.1 4 (nI n)), (fld (mtS i 0 4 r4 tm) n (bs, bc, p1, p2)).2.2.2)).2.2.1 (mtF i 0 5 (fgt true i (nI n) 60 0 r4).2 (tm &&& (((1 : Int32) <<< (nI n &&& 31)) ^^^ (-1))) ((fld (mtS i 0 4 r4 tm) n (bs, bc, p1, p2)).1, (fld (mtS i 0 4 r4 tm) n (bs, bc, p1, p2)).2.1, (upd (fld (mtS i 0 4 r4 tm) n (bs, bc, p1, p2)).2.2.1 4 (nI n)), (fld (mtS i 0 4 r4 tm) n (bs, bc, p1, p2)).2.2.2)).2.2.2 p3 p4 p5 ++ (yW g (sx 5) (fgt true i (nI n) 60 0 r4).2 ++ (yW g (sx 4) r4 ++ []))) (asc2 _ _ _) hP hD hS (fun H locs hP hD hS => ?_)
                refine lv_iinc (v := nI (n + 1)) (lv' := [(6, .int (nI (n + 1))), (0, .ref (t 0)), (1, .int (i)), (2, .int (tm)), (3, .int (4)), (4, .ref ((sx 4) 0)), (5, .ref ((sx 5) 0))]) hx hb dX6_meetRest_138 hl (k := 6) rfl (inc_nI n) (by decide) rfl (fun ls hl => ?_)
                refine lv_goto (tgt := 78) hx hb dX6_meetRest_141 (by decide) ?_
                have e9 : fld (mtS i 0 4 r4 tm) (n + 1) (bs, bc, p1, p2) = mtF i 0 5 (fgt true i (nI n) 60 0 r4).2 (tm &&& ((1 : Int32) <<< (nI n &&& 31) ^^^ (-1))) ((fld (mtS i 0 4 r4 tm) n (bs, bc, p1, p2)).1, (fld (mtS i 0 4 r4 tm) n (bs, bc, p1, p2)).2.1, upd (fld (mtS i 0 4 r4 tm) n (bs, bc, p1, p2)).2.2.1 4 (nI n), (fld (mtS i 0 4 r4 tm) n (bs, bc, p1, p2)).2.2.2) := mtS_t c5
                have hP : kP g (tW g t (c 0) (fun k => sx k 0) (fld (mtS i 0 4 r4 tm) (n + 1) (bs, bc, p1, p2)).1 (fld (mtS i 0 4 r4 tm) (n + 1) (bs, bc, p1, p2)).2.1 (fld (mtS i 0 4 r4 tm) (n + 1) (bs, bc, p1, p2)).2.2.1 (fld (mtS i 0 4 r4 tm) (n + 1) (bs, bc, p1, p2)).2.2.2 p3 p4 p5 ++ (yW g (sx 5) (fgt true i (nI n) 60 0 r4).2 ++ (yW g (sx 4) r4 ++ []))) _ := kP_eq (by rw [e9]) hP
                have hD : va_D _ (tW g t (c 0) (fun k => sx k 0) (fld (mtS i 0 4 r4 tm) (n + 1) (bs, bc, p1, p2)).1 (fld (mtS i 0 4 r4 tm) (n + 1) (bs, bc, p1, p2)).2.1 (fld (mtS i 0 4 r4 tm) (n + 1) (bs, bc, p1, p2)).2.2.1 (fld (mtS i 0 4 r4 tm) (n + 1) (bs, bc, p1, p2)).2.2.2 p3 p4 p5 ++ (yW g (sx 5) (fgt true i (nI n) 60 0 r4).2 ++ (yW g (sx 4) r4 ++ []))) := vD_eq (by rw [e9]) hD
                have hP : kP g (tW g t (c 0) (fun k => sx k 0) (fld (mtS i 0 4 r4 tm) (n + 1) (bs, bc, p1, p2)).1 (fld (mtS i 0 4 r4 tm) (n + 1) (bs, bc, p1, p2)).2.1 (fld (mtS i 0 4 r4 tm) (n + 1) (bs, bc, p1, p2)).2.2.1 (fld (mtS i 0 4 r4 tm) (n + 1) (bs, bc, p1, p2)).2.2.2 p3 p4 p5 ++ (yW g (sx 4) r4 ++ (yW g (sx 5) (fgt true i (nI n) 60 0 r4).2 ++ []))) _ := kP_perm (pmA _ (pm_swap _ _ _)) hP
                have hD : va_D _ (tW g t (c 0) (fun k => sx k 0) (fld (mtS i 0 4 r4 tm) (n + 1) (bs, bc, p1, p2)).1 (fld (mtS i 0 4 r4 tm) (n + 1) (bs, bc, p1, p2)).2.1 (fld (mtS i 0 4 r4 tm) (n + 1) (bs, bc, p1, p2)).2.2.1 (fld (mtS i 0 4 r4 tm) (n + 1) (bs, bc, p1, p2)).2.2.2 p3 p4 p5 ++ (yW g (sx 4) r4 ++ (yW g (sx 5) (fgt true i (nI n) 60 0 r4).2 ++ []))) := vD_perm (pmA _ (pm_swap _ _ _)) hD
                exact ih78 (n + 1) (⟨(fgt true i (nI n) 60 0 r4).2, Ag_fgt⟩) (by omega) (by omega) _ _ hP hD hS _ (lv_sub hl [1, 2, 3, 4, 5, 6, 0] rfl)
              · skip
                have c5 := b2i_0 c5
                refine lv_goto (tgt := 138) hx hb dX6_meetRest_94 (by decide) ?_
                refine lv_iinc (v := nI (n + 1)) (lv' := [(6, .int (nI (n + 1))), (0, .ref (t 0)), (1, .int (i)), (2, .int (tm)), (3, .int (4)), (4, .ref ((sx 4) 0)), (5, .ref ((sx 5) 0))]) hx hb dX6_meetRest_138 hl (k := 6) rfl (inc_nI n) (by decide) rfl (fun ls hl => ?_)
                refine lv_goto (tgt := 78) hx hb dX6_meetRest_141 (by decide) ?_
                have e9 : fld (mtS i 0 4 r4 tm) (n + 1) (bs, bc, p1, p2) = fld (mtS i 0 4 r4 tm) n (bs, bc, p1, p2) := mtS_f c5
                have hP : kP g (tW g t (c 0) (fun k => sx k 0) (fld (mtS i 0 4 r4 tm) (n + 1) (bs, bc, p1, p2)).1 (fld (mtS i 0 4 r4 tm) (n + 1) (bs, bc, p1, p2)).2.1 (fld (mtS i 0 4 r4 tm) (n + 1) (bs, bc, p1, p2)).2.2.1 (fld (mtS i 0 4 r4 tm) (n + 1) (bs, bc, p1, p2)).2.2.2 p3 p4 p5 ++ (yW g (sx 4) r4 ++ (yW g (sx 5) y5.1 ++ []))) _ := kP_eq (by rw [e9]) hP
                have hD : va_D _ (tW g t (c 0) (fun k => sx k 0) (fld (mtS i 0 4 r4 tm) (n + 1) (bs, bc, p1, p2)).1 (fld (mtS i 0 4 r4 tm) (n + 1) (bs, bc, p1, p2)).2.1 (fld (mtS i 0 4 r4 tm) (n + 1) (bs, bc, p1, p2)).2.2.1 (fld (mtS i 0 4 r4 tm) (n + 1) (bs, bc, p1, p2)).2.2.2 p3 p4 p5 ++ (yW g (sx 4) r4 ++ (yW g (sx 5) y5.1 ++ []))) := vD_eq (by rw [e9]) hD
                exact ih78 (n + 1) y5 (by omega) (by omega) _ _ hP hD hS _ (lv_sub hl [1, 2, 3, 4, 5, 6, 0] rfl)
        exact cut78 _ 0 (⟨r5, ha5⟩) (Nat.lt_succ_self _) (by omega) _ _ hP hD hS _ (lv_sub hl [3, 4, 5, 6, 2, 1, 0] rfl)
    · skip
      have htm := c2
      refine lv_aload_n hx hb dX6_meetRest_28 rfl (lv_at hl 1 rfl) ?_
      refine lv_aload hx hb dX6_meetRest_29 (lv_at hl 0 rfl) ?_
      refine lv_iload_n hx hb dX6_meetRest_31 rfl (lv_at hl 2 rfl) ?_
      refine lv_iconst (v := 5) hx hb dX6_meetRest_32 rfl ?_
      refine ro_i (run_V (As := [.int (i), .int (5)]) (rest := [.ref (t 0)]) hC.1 ckX7_fact (kX7_fact l g (sx 4) r4 i 5 hw) (gw_in m_691 rfl) (fb_ro _ _ _) (va_recv hK.1 (kP_app.mp (kP_app.mp hP).2).1 (q0 := 0) rfl rfl) (fun U hU hW => ⟨by rw [hU]; exact (kP_app.mp (kP_app.mp hP).2).1, kK_warm hW hK⟩) ⟨rfl, rfl, Nat.le_of_ble_eq_true rfl, Nat.le_of_ble_eq_true rfl⟩ rfl hl.1 rfl (Nat.le_of_ble_eq_true rfl) dX6_meetRest_33 ⟨Nat.le_of_ble_eq_true rfl, Nat.le_of_ble_eq_true rfl⟩) ?_
      refine lv_aload hx hb dX6_meetRest_36 (lv_at hl 0 rfl) ?_
      refine lv_iload_n hx hb dX6_meetRest_38 rfl (lv_at hl 2 rfl) ?_
      refine lv_iconst (v := 4) hx hb dX6_meetRest_39 rfl ?_
      refine ro_i (run_V (As := [.int (i), .int (4)]) (rest := [.int (yFact r4 i 5), .ref (t 0)]) hC.1 ckX7_fact (kX7_fact l g (sx 4) r4 i 4 hw) (gw_in m_691 rfl) (fb_ro _ _ _) (va_recv hK.1 (kP_app.mp (kP_app.mp hP).2).1 (q0 := 0) rfl rfl) (fun U hU hW => ⟨by rw [hU]; exact (kP_app.mp (kP_app.mp hP).2).1, kK_warm hW hK⟩) ⟨rfl, rfl, Nat.le_of_ble_eq_true rfl, Nat.le_of_ble_eq_true rfl⟩ rfl hl.1 rfl (Nat.le_of_ble_eq_true rfl) dX6_meetRest_40 ⟨Nat.le_of_ble_eq_true rfl, Nat.le_of_ble_eq_true rfl⟩) ?_
      refine rw_v (run_V (As := [.int (yFact r4 i 5), .int (yFact r4 i 4)]) (rest := []) hC.1 ckX6_keepIfBetter (kX6_keepIfBetter l g t c (fun k => sx k 0) bs bc p1 p2 p3 p4 p5 (yFact r4 i 5) (yFact r4 i 4)) (gw_in m_692 rfl) (fb_rw _ _ _) (va_recv hK.1 (kP_app.mp hP).1 (q0 := 0) rfl rfl) (fun U hU hW => ⟨by rw [hU]; exact (kP_app.mpr ⟨(kP_app.mp hP).1, kP_nil⟩), kK_warm hW hK, vD_sub (sbA _ (sb0 _)) hD⟩) ⟨rfl, rfl, Nat.le_of_ble_eq_true rfl, Nat.le_of_ble_eq_true rfl⟩ rfl hl.1 rfl (Nat.le_of_ble_eq_true rfl) dX6_meetRest_43 ⟨Nat.le_of_ble_eq_true rfl, Nat.le_of_ble_eq_true rfl⟩) (adr_app tW_adr rfl) (asc1 _ _) (ww' := tW g t (c 0) (fun k => sx k 0) (if kbB (yFact r4 i 5) (yFact r4 i 4) bs bc = true then (yFact r4 i 5) else bs) (if kbB (yFact r4 i 5) (yFact r4 i 4) bs bc = true then (yFact r4 i 4) else bc) p1 (if kbB (yFact r4 i 5) (yFact r4 i 4) bs bc = true then p1 else p2) p3 p4 p5 ++ (yW g (sx 4) r4 ++ (yW g (sx 5) r5 ++ []))) (asc1 _ _) hP hD hS (fun H locs hP hD hS => ?_)
      exact ret_rxv (S := ({z : Nat → Int32 // Ag r4 z})) (⟨r5, ha5⟩) hx hb hr hlk (kP_eq (by simp only [mtF_0 htm, kbS]) hP) hS dX6_meetRest_46
  · skip
    have c1 := b2i_0 c1
    exact absurd (show wth 4 0 5 = true from by decide) (by rw [c1]; decide)
set_option maxHeartbeats 4000000 in
set_option maxRecDepth 100000 in
theorem kX6_meetRest_3 (l : Launch) (g : gG) (t c : Nat → Nat) (sx : Nat → Nat → Nat) (bs bc : Int32) (p1 p2 p3 p4 p5 r3 r4 r5 : Nat → Int32) (i tm : Int32) (hw : Wf r3) (ha4 : Ag r3 r4) (ha5 : Ag r3 r5) : Met l yX6_meetRest (.code yX6_meetRest cX6_meetRest 7 none :: gw) (rmN 7) (va_Pc [.ref (t 0), .int (i), .int (tm), .int (3)] (rwPre g (tW g t (c 0) (fun k => sx k 0) bs bc p1 p2 p3 p4 p5 ++ (yW g (sx 3) r3 ++ (yW g (sx 4) r4 ++ (yW g (sx 5) r5 ++ [])))))) (rxQv g (tW g t (c 0) (fun k => sx k 0) bs bc p1 p2 p3 p4 p5 ++ (yW g (sx 3) r3 ++ (yW g (sx 4) r4 ++ (yW g (sx 5) r5 ++ [])))) (fun u9 : ({z : Nat → Int32 // Ag r3 z}) × ({z : Nat → Int32 // Ag r3 z}) => tW g t (c 0) (fun k => sx k 0) (mtF i 2 3 r3 tm (bs, bc, p1, p2)).1 (mtF i 2 3 r3 tm (bs, bc, p1, p2)).2.1 (mtF i 2 3 r3 tm (bs, bc, p1, p2)).2.2.1 (mtF i 2 3 r3 tm (bs, bc, p1, p2)).2.2.2 p3 p4 p5 ++ (yW g (sx 3) r3 ++ (yW g (sx 4) u9.1.1 ++ (yW g (sx 5) u9.2.1 ++ []))))) 0 0 (dm (tW g t (c 0) (fun k => sx k 0) bs bc p1 p2 p3 p4 p5 ++ (yW g (sx 3) r3 ++ (yW g (sx 4) r4 ++ (yW g (sx 5) r5 ++ []))))) := by
  refine met_start (by decide) (Nat.le_of_ble_eq_true rfl) ?_
  intro pp ee ss mm bl mt cd hC hpre ls hl
  obtain ⟨⟨hx, hb, hml, hown, hts⟩, hr, hlk, hnm⟩ := id hC
  have hl : lv_has ls 7 [(0, .ref (t 0)), (1, .int (i)), (2, .int (tm)), (3, .int (3))] := hl
  obtain ⟨hP, hK, hD⟩ := hpre
  have hS : va_S (dm (tW g t (c 0) (fun k => sx k 0) bs bc p1 p2 p3 p4 p5 ++ (yW g (sx 3) r3 ++ (yW g (sx 4) r4 ++ (yW g (sx 5) r5 ++ []))))) ss.heap ss.heap [] := va_S.rf
  have hD := vD_self hD
  refine lv_iload_n hx hb dX6_meetRest_0 rfl (lv_at hl 3 rfl) ?_
  refine lv_iconst (v := 0) hx hb dX6_meetRest_1 rfl ?_
  refine lv_iconst (v := 5) hx hb dX6_meetRest_2 rfl ?_
  refine ro_i (run_SN (As := [.int (3), .int (0), .int (5)]) (rest := []) hC.1 ckX8_within (kX8_within l 3 0 5) (hK.2.2 _ _ _ _ m_690) (fb_nil _) (fun _ _ _ => trivial) ⟨rfl, rfl, Nat.le_of_ble_eq_true rfl, Nat.le_of_ble_eq_true rfl⟩ rfl hl.1 rfl (Nat.le_of_ble_eq_true rfl) dX6_meetRest_3 ⟨Nat.le_of_ble_eq_true rfl, Nat.le_of_ble_eq_true rfl⟩) ?_
  refine lv_if_ne (tgt := 10) hx hb dX6_meetRest_6 (by decide) (fun c1 => ?_) (fun c1 => ?_)
  · skip
    have c1 := b2i_1 c1
    refine lv_aload_n hx hb dX6_meetRest_10 rfl (lv_at hl 0 rfl) ?_
    refine kget hC.1 hK (kP_app.mp hP).1 0 rfl rfl in_6 3 (by decide) (gw_in m_247 rfl) rfl dX6_meetRest_11 ?_
    refine lv_iload_n hx hb dX6_meetRest_14 rfl (lv_at hl 3 rfl) ?_
    refine kaldq (v := .ref ((sx 3) 0)) 3 hC.1 hK (kP_app.mp hP).1 1 rfl rfl (show vp_in (nI 3) 6 from vp_in_nI (by omega) (by omega)) rfl dX6_meetRest_15 ?_
    refine lv_astore (lv' := [(4, .ref ((sx 3) 0)), (0, .ref (t 0)), (1, .int (i)), (2, .int (tm)), (3, .int (3))]) hx hb dX6_meetRest_16 hl (by decide) rfl (fun ls hl => ?_)
    refine lv_aload hx hb dX6_meetRest_18 (lv_at hl 0 rfl) ?_
    refine lv_ifnonnull (tgt := 24) hx hb dX6_meetRest_20 (by decide) ?_
    refine lv_iload_n hx hb dX6_meetRest_24 rfl (lv_at hl 3 rfl) ?_
    refine lv_if_ne (tgt := 47) hx hb dX6_meetRest_25 (by decide) (fun c2 => ?_) (fun c2 => ?_)
    · skip
      have htm := c2
      refine lv_iload_n hx hb dX6_meetRest_47 rfl (lv_at hl 4 rfl) ?_
      refine lv_iconst (v := 1) hx hb dX6_meetRest_48 rfl ?_
      refine lv_iadd hx hb dX6_meetRest_49 ?_
      refine top_i (x := 3 + 1) (y := 4) (by decide) ?_
      refine lv_bipush (v := 6) hx hb dX6_meetRest_50 rfl ?_
      refine lv_icmp_ge (tgt := 66) hx hb dX6_meetRest_52 (by decide) (fun c3 => ?_) (fun c3 => ?_)
      · skip
        exact absurd c3 (by decide)
      · skip
        refine lv_aload_n hx hb dX6_meetRest_55 rfl (lv_at hl 1 rfl) ?_
        refine kget hC.1 hK (kP_app.mp hP).1 0 rfl rfl in_6 3 (by decide) (gw_in m_247 rfl) rfl dX6_meetRest_56 ?_
        refine lv_iload_n hx hb dX6_meetRest_59 rfl (lv_at hl 4 rfl) ?_
        refine lv_iconst (v := 1) hx hb dX6_meetRest_60 rfl ?_
        refine lv_iadd hx hb dX6_meetRest_61 ?_
        refine top_i (x := 3 + 1) (y := 4) (by decide) ?_
        refine kaldq (v := .ref ((sx 4) 0)) 3 hC.1 hK (kP_app.mp hP).1 1 rfl rfl (show vp_in (nI 4) 6 from vp_in_nI (by omega) (by omega)) rfl dX6_meetRest_62 ?_
        refine lv_goto (tgt := 67) hx hb dX6_meetRest_63 (by decide) ?_
        refine lv_astore (lv' := [(5, .ref ((sx 4) 0)), (4, .ref ((sx 3) 0)), (0, .ref (t 0)), (1, .int (i)), (2, .int (tm)), (3, .int (3))]) hx hb dX6_meetRest_67 hl (by decide) rfl (fun ls hl => ?_)
        refine lv_aload hx hb dX6_meetRest_69 (lv_at hl 0 rfl) ?_
        refine lv_ifnonnull (tgt := 75) hx hb dX6_meetRest_71 (by decide) ?_
        refine lv_iconst (v := 0) hx hb dX6_meetRest_75 rfl ?_
        refine lv_istore (lv' := [(6, .int (0)), (5, .ref ((sx 4) 0)), (4, .ref ((sx 3) 0)), (0, .ref (t 0)), (1, .int (i)), (2, .int (tm)), (3, .int (3))]) hx hb dX6_meetRest_76 hl (by decide) rfl (fun ls hl => ?_)
        have cut78 : ∀ kk : Nat, ∀ (n : Nat) (y4 : {z : Nat → Int32 // Ag r3 z}) (y5 : {z : Nat → Int32 // Ag r3 z}), 7 - n < kk → (hn : n ≤ 6) → ∀ (H : Heap) (locs : List Loc), kP g (tW g t (c 0) (fun k => sx k 0) (fld (mtS i 1 3 r3 tm) n (bs, bc, p1, p2)).1 (fld (mtS i 1 3 r3 tm) n (bs, bc, p1, p2)).2.1 (fld (mtS i 1 3 r3 tm) n (bs, bc, p1, p2)).2.2.1 (fld (mtS i 1 3 r3 tm) n (bs, bc, p1, p2)).2.2.2 p3 p4 p5 ++ (yW g (sx 3) r3 ++ (yW g (sx 4) y4.1 ++ (yW g (sx 5) y5.1 ++ [])))) H → va_D (dm (tW g t (c 0) (fun k => sx k 0) bs bc p1 p2 p3 p4 p5 ++ (yW g (sx 3) r3 ++ (yW g (sx 4) r4 ++ (yW g (sx 5) r5 ++ []))))) (tW g t (c 0) (fun k => sx k 0) (fld (mtS i 1 3 r3 tm) n (bs, bc, p1, p2)).1 (fld (mtS i 1 3 r3 tm) n (bs, bc, p1, p2)).2.1 (fld (mtS i 1 3 r3 tm) n (bs, bc, p1, p2)).2.2.1 (fld (mtS i 1 3 r3 tm) n (bs, bc, p1, p2)).2.2.2 p3 p4 p5 ++ (yW g (sx 3) r3 ++ (yW g (sx 4) y4.1 ++ (yW g (sx 5) y5.1 ++ [])))) → va_S (dm (tW g t (c 0) (fun k => sx k 0) bs bc p1 p2 p3 p4 p5 ++ (yW g (sx 3) r3 ++ (yW g (sx 4) r4 ++ (yW g (sx 5) r5 ++ []))))) ss.heap H locs → ∀ (ls : Array Slot), lv_has ls 7 [(0, .ref (t 0)), (1, .int (i)), (2, .int (tm)), (3, .int (3)), (4, .ref ((sx 3) 0)), (5, .ref ((sx 4) 0)), (6, .int (nI n))] → W pp l ee (rmN 7) ss mm ([.ref (t 0), .int (i), .int (tm), .int (3)] : List Value).toArray bl mt cd H locs 0 0 (MQ bl (rxQv g (tW g t (c 0) (fun k => sx k 0) bs bc p1 p2 p3 p4 p5 ++ (yW g (sx 3) r3 ++ (yW g (sx 4) r4 ++ (yW g (sx 5) r5 ++ [])))) (fun u9 : ({z : Nat → Int32 // Ag r3 z}) × ({z : Nat → Int32 // Ag r3 z}) => tW g t (c 0) (fun k => sx k 0) (mtF i 2 3 r3 tm (bs, bc, p1, p2)).1 (mtF i 2 3 r3 tm (bs, bc, p1, p2)).2.1 (mtF i 2 3 r3 tm (bs, bc, p1, p2)).2.2.1 (mtF i 2 3 r3 tm (bs, bc, p1, p2)).2.2.2 p3 p4 p5 ++ (yW g (sx 3) r3 ++ (yW g (sx 4) u9.1.1 ++ (yW g (sx 5) u9.2.1 ++ []))))) ([.ref (t 0), .int (i), .int (tm), .int (3)] : List Value).toArray ss 0 0 (dm (tW g t (c 0) (fun k => sx k 0) bs bc p1 p2 p3 p4 p5 ++ (yW g (sx 3) r3 ++ (yW g (sx 4) r4 ++ (yW g (sx 5) r5 ++ [])))))) (F0 mm 78 ls []) := by
          intro kk
          induction kk with
          | zero => intro n y4 y5 hmu; exact absurd hmu (Nat.not_lt_zero _)
          | succ kk ih78 =>
            intro n y4 y5 hmu hn H locs hP hD hS ls hl
            refine lv_iload hx hb dX6_meetRest_78 (lv_at hl 6 rfl) ?_
            refine lv_bipush (v := 6) hx hb dX6_meetRest_80 rfl ?_
            refine lv_icmp_ge (tgt := 144) hx hb dX6_meetRest_82 (by decide) (fun c4 => ?_) (fun c4 => ?_)
            · skip
              have c4' := Int32.not_lt.mpr c4
              have hn9 : n = 6 := by have := lp_ge (by omega) c4; rw [show (6 : Int32).toInt = 6 from rfl] at this; omega
              subst hn9
              exact ret_rxv (S := ({z : Nat → Int32 // Ag r3 z}) × ({z : Nat → Int32 // Ag r3 z})) (y4, y5) hx hb hr hlk (kP_eq (by rw [show mtF i 2 3 r3 tm (bs, bc, p1, p2) = fld (mtS i 1 3 r3 tm) 6 (bs, bc, p1, p2) from mtF_s (d := 1) htm]) hP) hS dX6_meetRest_144
            · skip
              have c4' := Int32.not_le.mp c4
              have hn9 : n < 6 := by have := lp_lt (by omega) c4; rw [show (6 : Int32).toInt = 6 from rfl] at this; omega
              refine lv_iload_n hx hb dX6_meetRest_85 rfl (lv_at hl 2 rfl) ?_
              refine lv_iload hx hb dX6_meetRest_86 (lv_at hl 6 rfl) ?_
              refine ro_i (run_SN (As := [.int (tm), .int (nI n)]) (rest := []) hC.1 ckX8_has (kX8_has l tm (nI n)) (hK.2.2 _ _ _ _ m_697) (fb_nil _) (fun _ _ _ => trivial) ⟨rfl, rfl, Nat.le_of_ble_eq_true rfl, Nat.le_of_ble_eq_true rfl⟩ rfl hl.1 rfl (Nat.le_of_ble_eq_true rfl) dX6_meetRest_88 ⟨Nat.le_of_ble_eq_true rfl, Nat.le_of_ble_eq_true rfl⟩) ?_
              refine lv_if_ne (tgt := 97) hx hb dX6_meetRest_91 (by decide) (fun c5 => ?_) (fun c5 => ?_)
              · skip
                have c5 := b2i_1 c5
                refine lv_aload_n hx hb dX6_meetRest_97 rfl (lv_at hl 0 rfl) ?_
                refine kget hC.1 hK (kP_app.mp hP).1 0 rfl rfl in_6 4 (by decide) (gw_in m_248 rfl) rfl dX6_meetRest_98 ?_
                refine lv_iload_n hx hb dX6_meetRest_101 rfl (lv_at hl 3 rfl) ?_
                refine lv_iload hx hb dX6_meetRest_102 (lv_at hl 6 rfl) ?_
                refine kast (B' := tW g t (c 0) (fun k => sx k 0) (fld (mtS i 1 3 r3 tm) n (bs, bc, p1, p2)).1 (fld (mtS i 1 3 r3 tm) n (bs, bc, p1, p2)).2.1 (upd (fld (mtS i 1 3 r3 tm) n (bs, bc, p1, p2)).2.2.1 3 (nI n)) (fld (mtS i 1 3 r3 tm) n (bs, bc, p1, p2)).2.2.2 p3 p4 p5) hC.1 hK hP hD hS 2 rfl (show vp_in (nI 3) 6 from vp_in_nI (by omega) (by omega)) (fun _ h => by rw [show cl 3 = 3 from by decide] at h; exact h) tW_adr dX6_meetRest_104 (fun H locs hP hD hS => ?_)
                refine lv_aload hx hb dX6_meetRest_105 (lv_at hl 5 rfl) ?_
                refine lv_aload hx hb dX6_meetRest_107 (lv_at hl 4 rfl) ?_
                have hP : kP g (yW g (sx 4) y4.1 ++ (yW g (sx 3) r3 ++ (tW g t (c 0) (fun k => sx k 0) (fld (mtS i 1 3 r3 tm) n (bs, bc, p1, p2)).1 (fld (mtS i 1 3 r3 tm) n (bs, bc, p1, p2)).2.1 (upd (fld (mtS i 1 3 r3 tm) n (bs, bc, p1, p2)).2.2.1 3 (nI n)) (fld (mtS i 1 3 r3 tm) n (bs, bc, p1, p2)).2.2.2 p3 p4 p5 ++ (yW g (sx 5) y5.1 ++ [])))) _ := kP_perm (((pmA _ (pm_swap _ _ _)).trans (pm_swap _ _ _)).trans (pmA _ (pm_swap _ _ _))) hP
                have hD : va_D _ (yW g (sx 4) y4.1 ++ (yW g (sx 3) r3 ++ (tW g t (c 0) (fun k => sx k 0) (fld (mtS i 1 3 r3 tm) n (bs, bc, p1, p2)).1 (fld (mtS i 1 3 r3 tm) n (bs, bc, p1, p2)).2.1 (upd (fld (mtS i 1 3 r3 tm) n (bs, bc, p1, p2)).2.2.1 3 (nI n)) (fld (mtS i 1 3 r3 tm) n (bs, bc, p1, p2)).2.2.2 p3 p4 p5 ++ (yW g (sx 5) y5.1 ++ [])))) := vD_perm (((pmA _ (pm_swap _ _ _)).trans (pm_swap _ _ _)).trans (pmA _ (pm_swap _ _ _))) hD
                refine rw_v (run_V (As := [.ref ((sx 3) 0)]) (rest := []) hC.1 ckX7_copyChangesOf (kX7_copyChangesOf l g (sx 4) (sx 3) y4.1 r3) (gw_in m_700 rfl) (fb_rw _ _ _) (va_recv hK.1 (kP_app.mp hP).1 (q0 := 0) rfl rfl) (fun U hU hW => ⟨by rw [hU]; exact (kP_app.mpr ⟨(kP_app.mp hP).1, (kP_app.mpr ⟨(kP_app.mp (kP_app.mp hP).2).1, kP_nil⟩)⟩), kK_warm hW hK, vD_sub (sbA _ (sbA _ (sb0 _))) hD⟩) ⟨rfl, rfl, Nat.le_of_ble_eq_true rfl, Nat.le_of_ble_eq_true rfl⟩ rfl hl.1 rfl (Nat.le_of_ble_eq_true rfl) dX6_meetRest_109 ⟨Nat.le_of_ble_eq_true rfl, Nat.le_of_ble_eq_true rfl⟩) (adr_app yW_adr (adr_app rfl rfl)) (asc2 _ _ _) (ww' := yW g (sx 4) (chg y4.1 r3) ++ (yW g (sx 3) r3 ++ (tW g t (c 0) (fun k => sx k 0) (fld (mtS i 1 3 r3 tm) n (bs, bc, p1, p2)).1 (fld (mtS i 1 3 r3 tm) n (bs, bc, p1, p2)).2.1 (upd (fld (mtS i 1 3 r3 tm) n (bs, bc, p1, p2)).2.2.1 3 (nI n)) (fld (mtS i 1 3 r3 tm) n (bs, bc, p1, p2)).2.2.2 p3 p4 p5 ++ (yW g (sx 5) y5.1 ++ [])))) (asc2 _ _ _) hP hD hS (fun H locs hP hD hS => ?_)
                rw [show (chg y4.1 r3) = r3 from chg_ag y4.2] at hP hD
                refine lv_aload hx hb dX6_meetRest_112 (lv_at hl 5 rfl) ?_
                refine lv_iload_n hx hb dX6_meetRest_114 rfl (lv_at hl 1 rfl) ?_
                refine lv_iload hx hb dX6_meetRest_115 (lv_at hl 6 rfl) ?_
                refine lv_iconst (v := 1) hx hb dX6_meetRest_117 rfl ?_
                refine rw_i (run_S (As := [.ref ((sx 4) 0), .int (i), .int (nI n), .int (1)]) (rest := []) hC.1 ckX6_fight (kX6_fight l g (sx 4) r3 i (nI n) true hw) (gw_in m_648 rfl) (fb_rw _ _ _) (fun U hU hW => ⟨by rw [hU]; exact (kP_app.mpr ⟨(kP_app.mp hP).1, kP_nil⟩), kK_warm hW hK, vD_sub (sbA _ (sb0 _)) hD⟩) ⟨rfl, rfl, Nat.le_of_ble_eq_true rfl, Nat.le_of_ble_eq_true rfl⟩ rfl hl.1 rfl (Nat.le_of_ble_eq_true rfl) dX6_meetRest_118 ⟨Nat.le_of_ble_eq_true rfl, Nat.le_of_ble_eq_true rfl⟩) (adr_app yW_adr rfl) (asc1 _ _) (ww' := yW g (sx 4) (fgt true i (nI n) 60 0 r3).2 ++ (yW g (sx 3) r3 ++ (tW g t (c 0) (fun k => sx k 0) (fld (mtS i 1 3 r3 tm) n (bs, bc, p1, p2)).1 (fld (mtS i 1 3 r3 tm) n (bs, bc, p1, p2)).2.1 (upd (fld (mtS i 1 3 r3 tm) n (bs, bc, p1, p2)).2.2.1 3 (nI n)) (fld (mtS i 1 3 r3 tm) n (bs, bc, p1, p2)).2.2.2 p3 p4 p5 ++ (yW g (sx 5) y5.1 ++ [])))) (asc1 _ _) hP hD hS (fun H locs hP hD hS => ?_)
                refine lv_pop hx hb dX6_meetRest_121 rfl ?_
                refine lv_aload_n hx hb dX6_meetRest_122 rfl (lv_at hl 0 rfl) ?_
                refine lv_iload_n hx hb dX6_meetRest_123 rfl (lv_at hl 1 rfl) ?_
                refine lv_iload_n hx hb dX6_meetRest_124 rfl (lv_at hl 2 rfl) ?_
                refine lv_iconst (v := 1) hx hb dX6_meetRest_125 rfl ?_
                refine lv_iload hx hb dX6_meetRest_126 (lv_at hl 6 rfl) ?_
                refine lv_ishl hx hb dX6_meetRest_128 ?_
                refine top_i (x := 1 <<< ((nI n) &&& 31)) (y := (1 : Int32) <<< (nI n &&& 31)) rfl ?_
                refine lv_iconst (v := -1) hx hb dX6_meetRest_129 rfl ?_
                refine lv_ixor hx hb dX6_meetRest_130 ?_
                refine lv_iand hx hb dX6_meetRest_131 ?_
                refine lv_iload_n hx hb dX6_meetRest_132 rfl (lv_at hl 3 rfl) ?_
                refine lv_iconst (v := 1) hx hb dX6_meetRest_133 rfl ?_
                refine lv_iadd hx hb dX6_meetRest_134 ?_
                refine top_i (x := 3 + 1) (y := 4) (by decide) ?_
                have hP : kP g (tW g t (c 0) (fun k => sx k 0) (fld (mtS i 1 3 r3 tm) n (bs, bc, p1, p2)).1 (fld (mtS i 1 3 r3 tm) n (bs, bc, p1, p2)).2.1 (upd (fld (mtS i 1 3 r3 tm) n (bs, bc, p1, p2)).2.2.1 3 (nI n)) (fld (mtS i 1 3 r3 tm) n (bs, bc, p1, p2)).2.2.2 p3 p4 p5 ++ (yW g (sx 4) (fgt true i (nI n) 60 0 r3).2 ++ (yW g (sx 5) y5.1 ++ (yW g (sx 3) r3 ++ [])))) _ := kP_perm (((pmA _ (pm_swap _ _ _)).trans (pm_swap _ _ _)).trans (pmA _ (pmA _ (pm_swap _ _ _)))) hP
                have hD : va_D _ (tW g t (c 0) (fun k => sx k 0) (fld (mtS i 1 3 r3 tm) n (bs, bc, p1, p2)).1 (fld (mtS i 1 3 r3 tm) n (bs, bc, p1, p2)).2.1 (upd (fld (mtS i 1 3 r3 tm) n (bs, bc, p1, p2)).2.2.1 3 (nI n)) (fld (mtS i 1 3 r3 tm) n (bs, bc, p1, p2)).2.2.2 p3 p4 p5 ++ (yW g (sx 4) (fgt true i (nI n) 60 0 r3).2 ++ (yW g (sx 5) y5.1 ++ (yW g (sx 3) r3 ++ [])))) := vD_perm (((pmA _ (pm_swap _ _ _)).trans (pm_swap _ _ _)).trans (pmA _ (pmA _ (pm_swap _ _ _)))) hD
                refine rx_v (run_V (rm := rmN 6) (As := [.int (i), .int (tm &&& (((1 : Int32) <<< (nI n &&& 31)) ^^^ (-1))), .int (4)]) (rest := []) hC.1 ckX6_meetRest (kX6_meetRest_4 l g t c sx (fld (mtS i 1 3 r3 tm) n (bs, bc, p1, p2)).1 (fld (mtS i 1 3 r3 tm) n (bs, bc, p1, p2)).2.1 (upd (fld (mtS i 1 3 r3 tm) n (bs, bc, p1, p2)).2.2.1 3 (nI n)) (fld (mtS i 1 3 r3 tm) n (bs, bc, p1, p2)).2.2.2 p3 p4 p5 (fgt true i (nI n) 60 0 r3).2 y5.1 i (tm &&& (((1 : Int32) <<< (nI n &&& 31)) ^^^ (-1))) (Wf_fgt hw) (Ag_tr2 Ag_fgt y5.2)) (gw_in m_686 rfl) (fb_rw _ _ _) (va_recv hK.1 (kP_app.mp hP).1 (q0 := 0) rfl rfl) (fun U hU hW => ⟨by rw [hU]; exact (kP_app.mpr ⟨(kP_app.mp hP).1, (kP_app.mpr ⟨(kP_app.mp (kP_app.mp hP).2).1, (kP_app.mpr ⟨(kP_app.mp (kP_app.mp (kP_app.mp hP).2).2).1, kP_nil⟩)⟩)⟩), kK_warm hW hK, vD_sub (sbA _ (sbA _ (sbA _ (sb0 _)))) hD⟩) ⟨rfl, rfl, Nat.le_of_ble_eq_true rfl, Nat.le_of_ble_eq_true rfl⟩ rfl hl.1 rfl (Nat.le_of_ble_eq_true rfl) dX6_meetRest_135 ⟨Nat.le_of_ble_eq_true rfl, Nat.le_of_ble_eq_true rfl⟩) (fun u => (adr_app tW_adr (adr_app rfl (adr_app yW_adr rfl)))) (asc3 _ _ _ _) (ww' := fun u9 : ({z : Nat → Int32 // Ag (fgt true i (nI n) 60 0 r3).2 z}) => tW g t (c 0) (fun k => sx k 0) (mtF i 1 4 (fgt true i (nI n) 60 0 r3).2 (tm &&& (((1 : Int32) <<< (nI n &&& 31)) ^^^ (-1))) ((fld (mtS i 1 3 r3 tm) n (bs, bc, p1, p2)).1, (fld (mtS i 1 3 r3 tm) n (bs, bc, p1, p2)).2.1, (upd (fld (mtS i 1 3 r3 tm) n (bs, bc, p1, p2)).2.2.1 3 (nI n)), (fld (mtS i 1 3 r3 tm) n (bs, bc, p1, p2)).2.2.2)).1 (mtF i 1 4 (fgt true i (nI n) 60 0 r3).2 (tm &&& (((1 : Int32) <<< (nI n &&& 31)) ^^^ (-1))) ((fld (mtS i 1 3 r3 tm) n (bs, bc, p1, p2)).1, (fld (mtS i 1 3 r3 tm) n (bs, bc, p1, p2)).2.1, (upd (fld (mtS i 1 3 r3 tm) n (bs, bc, p1, p2)).2.2.1 3 (nI n)), (fld (mtS i 1 3 r3 tm) n (bs, bc, p1, p2)).2.2.2)).2.1 (mtF i 1 4 (fgt true i (nI n) 60 0 r3).2 (tm &&& (((1 : Int32) <<< (nI n &&& 31)) ^^^ (-1))) ((fld (mtS i 1 3 r3 tm) n (bs, bc, p1, p2)).1, (fld (mtS i 1 3 r3 tm) n (bs, bc, p1, p2)).2.1, (upd (fld (mtS i 1 3 r3 tm) n (bs, bc, p1, p2)).2.2.1 3 (nI n)), (fld (mtS i 1 3 r3 tm) n (bs, bc, p1, p2)).2.2.2)).2.2.1 (mtF i 1 4 (fgt true i (nI n) 60 0 r3).2 (tm &&& (((1 : Int32) <<< (nI n &&& 31)) ^^^ (-1))) ((fld (mtS i 1 3 r3 tm) n (bs, bc, p1, p2)).1, (fld (mtS i 1 3 r3 tm) n (bs, bc, p1, p2)).2.1, (upd (fld (mtS i 1 3 r3 tm) n (bs, bc, p1, p2)).2.2.1 3 (nI n)), (fld (mtS i 1 3 r3 tm) n (bs, bc, p1, p2)).2.2.2)).2.2.2 p3 p4 p5 ++ (yW g (sx 4) (fgt true i (nI n) 60 0 r3).2 ++ (yW g (sx 5) u9.1 ++ (yW g (sx 3) r3 ++ [])))) (fun u => asc3 _ _ _ _) hP hD hS (fun u H locs hP hD hS => ?_)
                obtain ⟨x6, rfl⟩ : ∃ z, z = u := ⟨_, rfl⟩
                have hP : kP g (tW g t (c 0) (fun k => sx k 0) (mtF i 1 4 (fgt true i (nI n) 60 0 r3).2 (tm &&& (((1 : Int32) <<< (nI n &&& 31)) ^^^ (-1))) ((fld (mtS i 1 3 r3 tm) n (bs, bc, p1, p2)).1, (fld (mtS i 1 3 r3 tm) n (bs, bc, p1, p2)).2.1, (upd (fld (mtS i 1 3 r3 tm) n (bs, bc, p1, p2)).2.2.1 3 (nI n)), (fld (mtS i 1 3 r3 tm) n (bs, bc, p1, p2)).2.2.2)).1 (mtF i 1 4 (fgt true i (nI n) 60 0 r3).2 (tm &&& (((1 : Int32) <<< (nI n &&& 31)) ^^^ (-1))) ((fld (mtS i 1 3 r3 tm) n (bs, bc, p1, p2)).1, (fld (mtS i 1 3 r3 tm) n (bs, bc, p1, p2)).2.1, (upd (fld (mtS i 1 3 r3 tm) n (bs, bc, p1, p2)).2.2.1 3 (nI n)), (fld (mtS i 1 3 r3 tm) n (bs, bc, p1, p2)).2.2.2)).2.1 (mtF i 1 4 (fgt true i (nI n) 60 0 r3).2 (tm &&& (((1 : Int32) <<< (nI n &&& 31)) ^^^ (-1))) ((fld (mtS i 1 3 r3 tm) n (bs, bc, p1, p2)).1, (fld (mtS i 1 3 r3 tm) n (bs, bc, p1, p2)).2.1, (upd (fld (mtS i 1 3 r3 tm) n (bs, bc, p1, p2)).2.2.1 3 (nI n)), (fld (mtS i 1 3 r3 tm) n (bs, bc, p1, p2)).2.2.2)).2.2.1 (mtF i 1 4 (fgt true i (nI n) 60 0 r3).2 (tm &&& (((1 : Int32) <<< (nI n &&& 31)) ^^^ (-1))) ((fld (mtS i 1 3 r3 tm) n (bs, bc, p1, p2)).1, (fld (mtS i 1 3 r3 tm) n (bs, bc, p1, p2)).2.1, (upd (fld (mtS i 1 3 r3 tm) n (bs, bc, p1, p2)).2.2.1 3 (nI n)), (fld (mtS i 1 3 r3 tm) n (bs, bc, p1, p2)).2.2.2)).2.2.2 p3 p4 p5 ++ (yW g (sx 4) (fgt true i (nI n) 60 0 r3).2 ++ (yW g (sx 5) x6.1 ++ (yW g (sx 3) r3 ++ [])))) H := hP
                have hD : va_D _ (tW g t (c 0) (fun k => sx k 0) (mtF i 1 4 (fgt true i (nI n) 60 0 r3).2 (tm &&& (((1 : Int32) <<< (nI n &&& 31)) ^^^ (-1))) ((fld (mtS i 1 3 r3 tm) n (bs, bc, p1, p2)).1, (fld (mtS i 1 3 r3 tm) n (bs, bc, p1, p2)).2.1, (upd (fld (mtS i 1 3 r3 tm) n (bs, bc, p1, p2)).2.2.1 3 (nI n)), (fld (mtS i 1 3 r3 tm) n (bs, bc, p1, p2)).2.2.2)).1 (mtF i 1 4 (fgt true i (nI n) 60 0 r3).2 (tm &&& (((1 : Int32) <<< (nI n &&& 31)) ^^^ (-1))) ((fld (mtS i 1 3 r3 tm) n (bs, bc, p1, p2)).1, (fld (mtS i 1 3 r3 tm) n (bs, bc, p1, p2)).2.1, (upd (fld (mtS i 1 3 r3 tm) n (bs, bc, p1, p2)).2.2.1 3 (nI n)), (fld (mtS i 1 3 r3 tm) n (bs, bc, p1, p2)).2.2.2)).2.1 (mtF i 1 4 (fgt true i (nI n) 60 0 r3).2 (tm &&& (((1 : Int32) <<< (nI n &&& 31)) ^^^ (-1))) ((fld (mtS i 1 3 r3 tm) n (bs, bc, p1, p2)).1, (fld (mtS i 1 3 r3 tm) n (bs, bc, p1, p2)).2.1, (upd (fld (mtS i 1 3 r3 tm) n (bs, bc, p1, p2)).2.2.1 3 (nI n)), (fld (mtS i 1 3 r3 tm) n (bs, bc, p1, p2)).2.2.2)).2.2.1 (mtF i 1 4 (fgt true i (nI n) 60 0 r3).2 (tm &&& (((1 : Int32) <<< (nI n &&& 31)) ^^^ (-1))) ((fld (mtS i 1 3 r3 tm) n (bs, bc, p1, p2)).1, (fld (mtS i 1 3 r3 tm) n (bs, bc, p1, p2)).2.1, (upd (fld (mtS i 1 3 r3 tm) n (bs, bc, p1, p2)).2.2.1 3 (nI n)), (fld (mtS i 1 3 r3 tm) n (bs, bc, p1, p2)).2.2.2)).2.2.2 p3 p4 p5 ++ (yW g (sx 4) (fgt true i (nI n) 60 0 r3).2 ++ (yW g (sx 5) x6.1 ++ (yW g (sx 3) r3 ++ [])))) := hD
                refine lv_iinc (v := nI (n + 1)) (lv' := [(6, .int (nI (n + 1))), (0, .ref (t 0)), (1, .int (i)), (2, .int (tm)), (3, .int (3)), (4, .ref ((sx 3) 0)), (5, .ref ((sx 4) 0))]) hx hb dX6_meetRest_138 hl (k := 6) rfl (inc_nI n) (by decide) rfl (fun ls hl => ?_)
                refine lv_goto (tgt := 78) hx hb dX6_meetRest_141 (by decide) ?_
                have e9 : fld (mtS i 1 3 r3 tm) (n + 1) (bs, bc, p1, p2) = mtF i 1 4 (fgt true i (nI n) 60 0 r3).2 (tm &&& ((1 : Int32) <<< (nI n &&& 31) ^^^ (-1))) ((fld (mtS i 1 3 r3 tm) n (bs, bc, p1, p2)).1, (fld (mtS i 1 3 r3 tm) n (bs, bc, p1, p2)).2.1, upd (fld (mtS i 1 3 r3 tm) n (bs, bc, p1, p2)).2.2.1 3 (nI n), (fld (mtS i 1 3 r3 tm) n (bs, bc, p1, p2)).2.2.2) := mtS_t c5
                have hP : kP g (tW g t (c 0) (fun k => sx k 0) (fld (mtS i 1 3 r3 tm) (n + 1) (bs, bc, p1, p2)).1 (fld (mtS i 1 3 r3 tm) (n + 1) (bs, bc, p1, p2)).2.1 (fld (mtS i 1 3 r3 tm) (n + 1) (bs, bc, p1, p2)).2.2.1 (fld (mtS i 1 3 r3 tm) (n + 1) (bs, bc, p1, p2)).2.2.2 p3 p4 p5 ++ (yW g (sx 4) (fgt true i (nI n) 60 0 r3).2 ++ (yW g (sx 5) x6.1 ++ (yW g (sx 3) r3 ++ [])))) _ := kP_eq (by rw [e9]) hP
                have hD : va_D _ (tW g t (c 0) (fun k => sx k 0) (fld (mtS i 1 3 r3 tm) (n + 1) (bs, bc, p1, p2)).1 (fld (mtS i 1 3 r3 tm) (n + 1) (bs, bc, p1, p2)).2.1 (fld (mtS i 1 3 r3 tm) (n + 1) (bs, bc, p1, p2)).2.2.1 (fld (mtS i 1 3 r3 tm) (n + 1) (bs, bc, p1, p2)).2.2.2 p3 p4 p5 ++ (yW g (sx 4) (fgt true i (nI n) 60 0 r3).2 ++ (yW g (sx 5) x6.1 ++ (yW g (sx 3) r3 ++ [])))) := vD_eq (by rw [e9]) hD
                have hP : kP g (tW g t (c 0) (fun k => sx k 0) (fld (mtS i 1 3 r3 tm) (n + 1) (bs, bc, p1, p2)).1 (fld (mtS i 1 3 r3 tm) (n + 1) (bs, bc, p1, p2)).2.1 (fld (mtS i 1 3 r3 tm) (n + 1) (bs, bc, p1, p2)).2.2.1 (fld (mtS i 1 3 r3 tm) (n + 1) (bs, bc, p1, p2)).2.2.2 p3 p4 p5 ++ (yW g (sx 3) r3 ++ (yW g (sx 4) (fgt true i (nI n) 60 0 r3).2 ++ (yW g (sx 5) x6.1 ++ [])))) _ := kP_perm ((pmA _ (pmA _ (pm_swap _ _ _))).trans (pmA _ (pm_swap _ _ _))) hP
                have hD : va_D _ (tW g t (c 0) (fun k => sx k 0) (fld (mtS i 1 3 r3 tm) (n + 1) (bs, bc, p1, p2)).1 (fld (mtS i 1 3 r3 tm) (n + 1) (bs, bc, p1, p2)).2.1 (fld (mtS i 1 3 r3 tm) (n + 1) (bs, bc, p1, p2)).2.2.1 (fld (mtS i 1 3 r3 tm) (n + 1) (bs, bc, p1, p2)).2.2.2 p3 p4 p5 ++ (yW g (sx 3) r3 ++ (yW g (sx 4) (fgt true i (nI n) 60 0 r3).2 ++ (yW g (sx 5) x6.1 ++ [])))) := vD_perm ((pmA _ (pmA _ (pm_swap _ _ _))).trans (pmA _ (pm_swap _ _ _))) hD
                exact ih78 (n + 1) (⟨(fgt true i (nI n) 60 0 r3).2, Ag_fgt⟩) (⟨x6.1, Ag_tr Ag_fgt x6.2⟩) (by omega) (by omega) _ _ hP hD hS _ (lv_sub hl [1, 2, 3, 4, 5, 6, 0] rfl)
              · skip
                have c5 := b2i_0 c5
                refine lv_goto (tgt := 138) hx hb dX6_meetRest_94 (by decide) ?_
                refine lv_iinc (v := nI (n + 1)) (lv' := [(6, .int (nI (n + 1))), (0, .ref (t 0)), (1, .int (i)), (2, .int (tm)), (3, .int (3)), (4, .ref ((sx 3) 0)), (5, .ref ((sx 4) 0))]) hx hb dX6_meetRest_138 hl (k := 6) rfl (inc_nI n) (by decide) rfl (fun ls hl => ?_)
                refine lv_goto (tgt := 78) hx hb dX6_meetRest_141 (by decide) ?_
                have e9 : fld (mtS i 1 3 r3 tm) (n + 1) (bs, bc, p1, p2) = fld (mtS i 1 3 r3 tm) n (bs, bc, p1, p2) := mtS_f c5
                have hP : kP g (tW g t (c 0) (fun k => sx k 0) (fld (mtS i 1 3 r3 tm) (n + 1) (bs, bc, p1, p2)).1 (fld (mtS i 1 3 r3 tm) (n + 1) (bs, bc, p1, p2)).2.1 (fld (mtS i 1 3 r3 tm) (n + 1) (bs, bc, p1, p2)).2.2.1 (fld (mtS i 1 3 r3 tm) (n + 1) (bs, bc, p1, p2)).2.2.2 p3 p4 p5 ++ (yW g (sx 3) r3 ++ (yW g (sx 4) y4.1 ++ (yW g (sx 5) y5.1 ++ [])))) _ := kP_eq (by rw [e9]) hP
                have hD : va_D _ (tW g t (c 0) (fun k => sx k 0) (fld (mtS i 1 3 r3 tm) (n + 1) (bs, bc, p1, p2)).1 (fld (mtS i 1 3 r3 tm) (n + 1) (bs, bc, p1, p2)).2.1 (fld (mtS i 1 3 r3 tm) (n + 1) (bs, bc, p1, p2)).2.2.1 (fld (mtS i 1 3 r3 tm) (n + 1) (bs, bc, p1, p2)).2.2.2 p3 p4 p5 ++ (yW g (sx 3) r3 ++ (yW g (sx 4) y4.1 ++ (yW g (sx 5) y5.1 ++ [])))) := vD_eq (by rw [e9]) hD
                exact ih78 (n + 1) y4 y5 (by omega) (by omega) _ _ hP hD hS _ (lv_sub hl [1, 2, 3, 4, 5, 6, 0] rfl)
        exact cut78 _ 0 (⟨r4, ha4⟩) (⟨r5, ha5⟩) (Nat.lt_succ_self _) (by omega) _ _ hP hD hS _ (lv_sub hl [3, 4, 5, 6, 2, 1, 0] rfl)
    · skip
      have htm := c2
      refine lv_aload_n hx hb dX6_meetRest_28 rfl (lv_at hl 1 rfl) ?_
      refine lv_aload hx hb dX6_meetRest_29 (lv_at hl 0 rfl) ?_
      refine lv_iload_n hx hb dX6_meetRest_31 rfl (lv_at hl 2 rfl) ?_
      refine lv_iconst (v := 5) hx hb dX6_meetRest_32 rfl ?_
      refine ro_i (run_V (As := [.int (i), .int (5)]) (rest := [.ref (t 0)]) hC.1 ckX7_fact (kX7_fact l g (sx 3) r3 i 5 hw) (gw_in m_691 rfl) (fb_ro _ _ _) (va_recv hK.1 (kP_app.mp (kP_app.mp hP).2).1 (q0 := 0) rfl rfl) (fun U hU hW => ⟨by rw [hU]; exact (kP_app.mp (kP_app.mp hP).2).1, kK_warm hW hK⟩) ⟨rfl, rfl, Nat.le_of_ble_eq_true rfl, Nat.le_of_ble_eq_true rfl⟩ rfl hl.1 rfl (Nat.le_of_ble_eq_true rfl) dX6_meetRest_33 ⟨Nat.le_of_ble_eq_true rfl, Nat.le_of_ble_eq_true rfl⟩) ?_
      refine lv_aload hx hb dX6_meetRest_36 (lv_at hl 0 rfl) ?_
      refine lv_iload_n hx hb dX6_meetRest_38 rfl (lv_at hl 2 rfl) ?_
      refine lv_iconst (v := 4) hx hb dX6_meetRest_39 rfl ?_
      refine ro_i (run_V (As := [.int (i), .int (4)]) (rest := [.int (yFact r3 i 5), .ref (t 0)]) hC.1 ckX7_fact (kX7_fact l g (sx 3) r3 i 4 hw) (gw_in m_691 rfl) (fb_ro _ _ _) (va_recv hK.1 (kP_app.mp (kP_app.mp hP).2).1 (q0 := 0) rfl rfl) (fun U hU hW => ⟨by rw [hU]; exact (kP_app.mp (kP_app.mp hP).2).1, kK_warm hW hK⟩) ⟨rfl, rfl, Nat.le_of_ble_eq_true rfl, Nat.le_of_ble_eq_true rfl⟩ rfl hl.1 rfl (Nat.le_of_ble_eq_true rfl) dX6_meetRest_40 ⟨Nat.le_of_ble_eq_true rfl, Nat.le_of_ble_eq_true rfl⟩) ?_
      refine rw_v (run_V (As := [.int (yFact r3 i 5), .int (yFact r3 i 4)]) (rest := []) hC.1 ckX6_keepIfBetter (kX6_keepIfBetter l g t c (fun k => sx k 0) bs bc p1 p2 p3 p4 p5 (yFact r3 i 5) (yFact r3 i 4)) (gw_in m_692 rfl) (fb_rw _ _ _) (va_recv hK.1 (kP_app.mp hP).1 (q0 := 0) rfl rfl) (fun U hU hW => ⟨by rw [hU]; exact (kP_app.mpr ⟨(kP_app.mp hP).1, kP_nil⟩), kK_warm hW hK, vD_sub (sbA _ (sb0 _)) hD⟩) ⟨rfl, rfl, Nat.le_of_ble_eq_true rfl, Nat.le_of_ble_eq_true rfl⟩ rfl hl.1 rfl (Nat.le_of_ble_eq_true rfl) dX6_meetRest_43 ⟨Nat.le_of_ble_eq_true rfl, Nat.le_of_ble_eq_true rfl⟩) (adr_app tW_adr rfl) (asc1 _ _) (ww' := tW g t (c 0) (fun k => sx k 0) (if kbB (yFact r3 i 5) (yFact r3 i 4) bs bc = true then (yFact r3 i 5) else bs) (if kbB (yFact r3 i 5) (yFact r3 i 4) bs bc = true then (yFact r3 i 4) else bc) p1 (if kbB (yFact r3 i 5) (yFact r3 i 4) bs bc = true then p1 else p2) p3 p4 p5 ++ (yW g (sx 3) r3 ++ (yW g (sx 4) r4 ++ (yW g (sx 5) r5 ++ [])))) (asc1 _ _) hP hD hS (fun H locs hP hD hS => ?_)
      exact ret_rxv (S := ({z : Nat → Int32 // Ag r3 z}) × ({z : Nat → Int32 // Ag r3 z})) ((⟨r4, ha4⟩), (⟨r5, ha5⟩)) hx hb hr hlk (kP_eq (by simp only [mtF_0 htm, kbS]) hP) hS dX6_meetRest_46
  · skip
    have c1 := b2i_0 c1
    exact absurd (show wth 3 0 5 = true from by decide) (by rw [c1]; decide)
set_option maxHeartbeats 4000000 in
set_option maxRecDepth 100000 in
theorem kX6_meetRest_2 (l : Launch) (g : gG) (t c : Nat → Nat) (sx : Nat → Nat → Nat) (bs bc : Int32) (p1 p2 p3 p4 p5 r2 r3 r4 r5 : Nat → Int32) (i tm : Int32) (hw : Wf r2) (ha3 : Ag r2 r3) (ha4 : Ag r2 r4) (ha5 : Ag r2 r5) : Met l yX6_meetRest (.code yX6_meetRest cX6_meetRest 7 none :: gw) (rmN 8) (va_Pc [.ref (t 0), .int (i), .int (tm), .int (2)] (rwPre g (tW g t (c 0) (fun k => sx k 0) bs bc p1 p2 p3 p4 p5 ++ (yW g (sx 2) r2 ++ (yW g (sx 3) r3 ++ (yW g (sx 4) r4 ++ (yW g (sx 5) r5 ++ []))))))) (rxQv g (tW g t (c 0) (fun k => sx k 0) bs bc p1 p2 p3 p4 p5 ++ (yW g (sx 2) r2 ++ (yW g (sx 3) r3 ++ (yW g (sx 4) r4 ++ (yW g (sx 5) r5 ++ []))))) (fun u9 : ({z : Nat → Int32 // Ag r2 z}) × ({z : Nat → Int32 // Ag r2 z}) × ({z : Nat → Int32 // Ag r2 z}) => tW g t (c 0) (fun k => sx k 0) (mtF i 3 2 r2 tm (bs, bc, p1, p2)).1 (mtF i 3 2 r2 tm (bs, bc, p1, p2)).2.1 (mtF i 3 2 r2 tm (bs, bc, p1, p2)).2.2.1 (mtF i 3 2 r2 tm (bs, bc, p1, p2)).2.2.2 p3 p4 p5 ++ (yW g (sx 2) r2 ++ (yW g (sx 3) u9.1.1 ++ (yW g (sx 4) u9.2.1.1 ++ (yW g (sx 5) u9.2.2.1 ++ [])))))) 0 0 (dm (tW g t (c 0) (fun k => sx k 0) bs bc p1 p2 p3 p4 p5 ++ (yW g (sx 2) r2 ++ (yW g (sx 3) r3 ++ (yW g (sx 4) r4 ++ (yW g (sx 5) r5 ++ [])))))) := by
  refine met_start (by decide) (Nat.le_of_ble_eq_true rfl) ?_
  intro pp ee ss mm bl mt cd hC hpre ls hl
  obtain ⟨⟨hx, hb, hml, hown, hts⟩, hr, hlk, hnm⟩ := id hC
  have hl : lv_has ls 7 [(0, .ref (t 0)), (1, .int (i)), (2, .int (tm)), (3, .int (2))] := hl
  obtain ⟨hP, hK, hD⟩ := hpre
  have hS : va_S (dm (tW g t (c 0) (fun k => sx k 0) bs bc p1 p2 p3 p4 p5 ++ (yW g (sx 2) r2 ++ (yW g (sx 3) r3 ++ (yW g (sx 4) r4 ++ (yW g (sx 5) r5 ++ [])))))) ss.heap ss.heap [] := va_S.rf
  have hD := vD_self hD
  refine lv_iload_n hx hb dX6_meetRest_0 rfl (lv_at hl 3 rfl) ?_
  refine lv_iconst (v := 0) hx hb dX6_meetRest_1 rfl ?_
  refine lv_iconst (v := 5) hx hb dX6_meetRest_2 rfl ?_
  refine ro_i (run_SN (As := [.int (2), .int (0), .int (5)]) (rest := []) hC.1 ckX8_within (kX8_within l 2 0 5) (hK.2.2 _ _ _ _ m_690) (fb_nil _) (fun _ _ _ => trivial) ⟨rfl, rfl, Nat.le_of_ble_eq_true rfl, Nat.le_of_ble_eq_true rfl⟩ rfl hl.1 rfl (Nat.le_of_ble_eq_true rfl) dX6_meetRest_3 ⟨Nat.le_of_ble_eq_true rfl, Nat.le_of_ble_eq_true rfl⟩) ?_
  refine lv_if_ne (tgt := 10) hx hb dX6_meetRest_6 (by decide) (fun c1 => ?_) (fun c1 => ?_)
  · skip
    have c1 := b2i_1 c1
    refine lv_aload_n hx hb dX6_meetRest_10 rfl (lv_at hl 0 rfl) ?_
    refine kget hC.1 hK (kP_app.mp hP).1 0 rfl rfl in_6 3 (by decide) (gw_in m_247 rfl) rfl dX6_meetRest_11 ?_
    refine lv_iload_n hx hb dX6_meetRest_14 rfl (lv_at hl 3 rfl) ?_
    refine kaldq (v := .ref ((sx 2) 0)) 3 hC.1 hK (kP_app.mp hP).1 1 rfl rfl (show vp_in (nI 2) 6 from vp_in_nI (by omega) (by omega)) rfl dX6_meetRest_15 ?_
    refine lv_astore (lv' := [(4, .ref ((sx 2) 0)), (0, .ref (t 0)), (1, .int (i)), (2, .int (tm)), (3, .int (2))]) hx hb dX6_meetRest_16 hl (by decide) rfl (fun ls hl => ?_)
    refine lv_aload hx hb dX6_meetRest_18 (lv_at hl 0 rfl) ?_
    refine lv_ifnonnull (tgt := 24) hx hb dX6_meetRest_20 (by decide) ?_
    refine lv_iload_n hx hb dX6_meetRest_24 rfl (lv_at hl 3 rfl) ?_
    refine lv_if_ne (tgt := 47) hx hb dX6_meetRest_25 (by decide) (fun c2 => ?_) (fun c2 => ?_)
    · skip
      have htm := c2
      refine lv_iload_n hx hb dX6_meetRest_47 rfl (lv_at hl 4 rfl) ?_
      refine lv_iconst (v := 1) hx hb dX6_meetRest_48 rfl ?_
      refine lv_iadd hx hb dX6_meetRest_49 ?_
      refine top_i (x := 2 + 1) (y := 3) (by decide) ?_
      refine lv_bipush (v := 6) hx hb dX6_meetRest_50 rfl ?_
      refine lv_icmp_ge (tgt := 66) hx hb dX6_meetRest_52 (by decide) (fun c3 => ?_) (fun c3 => ?_)
      · skip
        exact absurd c3 (by decide)
      · skip
        refine lv_aload_n hx hb dX6_meetRest_55 rfl (lv_at hl 1 rfl) ?_
        refine kget hC.1 hK (kP_app.mp hP).1 0 rfl rfl in_6 3 (by decide) (gw_in m_247 rfl) rfl dX6_meetRest_56 ?_
        refine lv_iload_n hx hb dX6_meetRest_59 rfl (lv_at hl 4 rfl) ?_
        refine lv_iconst (v := 1) hx hb dX6_meetRest_60 rfl ?_
        refine lv_iadd hx hb dX6_meetRest_61 ?_
        refine top_i (x := 2 + 1) (y := 3) (by decide) ?_
        refine kaldq (v := .ref ((sx 3) 0)) 3 hC.1 hK (kP_app.mp hP).1 1 rfl rfl (show vp_in (nI 3) 6 from vp_in_nI (by omega) (by omega)) rfl dX6_meetRest_62 ?_
        refine lv_goto (tgt := 67) hx hb dX6_meetRest_63 (by decide) ?_
        refine lv_astore (lv' := [(5, .ref ((sx 3) 0)), (4, .ref ((sx 2) 0)), (0, .ref (t 0)), (1, .int (i)), (2, .int (tm)), (3, .int (2))]) hx hb dX6_meetRest_67 hl (by decide) rfl (fun ls hl => ?_)
        refine lv_aload hx hb dX6_meetRest_69 (lv_at hl 0 rfl) ?_
        refine lv_ifnonnull (tgt := 75) hx hb dX6_meetRest_71 (by decide) ?_
        refine lv_iconst (v := 0) hx hb dX6_meetRest_75 rfl ?_
        refine lv_istore (lv' := [(6, .int (0)), (5, .ref ((sx 3) 0)), (4, .ref ((sx 2) 0)), (0, .ref (t 0)), (1, .int (i)), (2, .int (tm)), (3, .int (2))]) hx hb dX6_meetRest_76 hl (by decide) rfl (fun ls hl => ?_)
        have cut78 : ∀ kk : Nat, ∀ (n : Nat) (y3 : {z : Nat → Int32 // Ag r2 z}) (y4 : {z : Nat → Int32 // Ag r2 z}) (y5 : {z : Nat → Int32 // Ag r2 z}), 7 - n < kk → (hn : n ≤ 6) → ∀ (H : Heap) (locs : List Loc), kP g (tW g t (c 0) (fun k => sx k 0) (fld (mtS i 2 2 r2 tm) n (bs, bc, p1, p2)).1 (fld (mtS i 2 2 r2 tm) n (bs, bc, p1, p2)).2.1 (fld (mtS i 2 2 r2 tm) n (bs, bc, p1, p2)).2.2.1 (fld (mtS i 2 2 r2 tm) n (bs, bc, p1, p2)).2.2.2 p3 p4 p5 ++ (yW g (sx 2) r2 ++ (yW g (sx 3) y3.1 ++ (yW g (sx 4) y4.1 ++ (yW g (sx 5) y5.1 ++ []))))) H → va_D (dm (tW g t (c 0) (fun k => sx k 0) bs bc p1 p2 p3 p4 p5 ++ (yW g (sx 2) r2 ++ (yW g (sx 3) r3 ++ (yW g (sx 4) r4 ++ (yW g (sx 5) r5 ++ [])))))) (tW g t (c 0) (fun k => sx k 0) (fld (mtS i 2 2 r2 tm) n (bs, bc, p1, p2)).1 (fld (mtS i 2 2 r2 tm) n (bs, bc, p1, p2)).2.1 (fld (mtS i 2 2 r2 tm) n (bs, bc, p1, p2)).2.2.1 (fld (mtS i 2 2 r2 tm) n (bs, bc, p1, p2)).2.2.2 p3 p4 p5 ++ (yW g (sx 2) r2 ++ (yW g (sx 3) y3.1 ++ (yW g (sx 4) y4.1 ++ (yW g (sx 5) y5.1 ++ []))))) → va_S (dm (tW g t (c 0) (fun k => sx k 0) bs bc p1 p2 p3 p4 p5 ++ (yW g (sx 2) r2 ++ (yW g (sx 3) r3 ++ (yW g (sx 4) r4 ++ (yW g (sx 5) r5 ++ [])))))) ss.heap H locs → ∀ (ls : Array Slot), lv_has ls 7 [(0, .ref (t 0)), (1, .int (i)), (2, .int (tm)), (3, .int (2)), (4, .ref ((sx 2) 0)), (5, .ref ((sx 3) 0)), (6, .int (nI n))] → W pp l ee (rmN 8) ss mm ([.ref (t 0), .int (i), .int (tm), .int (2)] : List Value).toArray bl mt cd H locs 0 0 (MQ bl (rxQv g (tW g t (c 0) (fun k => sx k 0) bs bc p1 p2 p3 p4 p5 ++ (yW g (sx 2) r2 ++ (yW g (sx 3) r3 ++ (yW g (sx 4) r4 ++ (yW g (sx 5) r5 ++ []))))) (fun u9 : ({z : Nat → Int32 // Ag r2 z}) × ({z : Nat → Int32 // Ag r2 z}) × ({z : Nat → Int32 // Ag r2 z}) => tW g t (c 0) (fun k => sx k 0) (mtF i 3 2 r2 tm (bs, bc, p1, p2)).1 (mtF i 3 2 r2 tm (bs, bc, p1, p2)).2.1 (mtF i 3 2 r2 tm (bs, bc, p1, p2)).2.2.1 (mtF i 3 2 r2 tm (bs, bc, p1, p2)).2.2.2 p3 p4 p5 ++ (yW g (sx 2) r2 ++ (yW g (sx 3) u9.1.1 ++ (yW g (sx 4) u9.2.1.1 ++ (yW g (sx 5) u9.2.2.1 ++ [])))))) ([.ref (t 0), .int (i), .int (tm), .int (2)] : List Value).toArray ss 0 0 (dm (tW g t (c 0) (fun k => sx k 0) bs bc p1 p2 p3 p4 p5 ++ (yW g (sx 2) r2 ++ (yW g (sx 3) r3 ++ (yW g (sx 4) r4 ++ (yW g (sx 5) r5 ++ []))))))) (F0 mm 78 ls []) := by
          intro kk
          induction kk with
          | zero => intro n y3 y4 y5 hmu; exact absurd hmu (Nat.not_lt_zero _)
          | succ kk ih78 =>
            intro n y3 y4 y5 hmu hn H locs hP hD hS ls hl
            refine lv_iload hx hb dX6_meetRest_78 (lv_at hl 6 rfl) ?_
            refine lv_bipush (v := 6) hx hb dX6_meetRest_80 rfl ?_
            refine lv_icmp_ge (tgt := 144) hx hb dX6_meetRest_82 (by decide) (fun c4 => ?_) (fun c4 => ?_)
            · skip
              have c4' := Int32.not_lt.mpr c4
              have hn9 : n = 6 := by have := lp_ge (by omega) c4; rw [show (6 : Int32).toInt = 6 from rfl] at this; omega
              subst hn9
              exact ret_rxv (S := ({z : Nat → Int32 // Ag r2 z}) × ({z : Nat → Int32 // Ag r2 z}) × ({z : Nat → Int32 // Ag r2 z})) (y3, y4, y5) hx hb hr hlk (kP_eq (by rw [show mtF i 3 2 r2 tm (bs, bc, p1, p2) = fld (mtS i 2 2 r2 tm) 6 (bs, bc, p1, p2) from mtF_s (d := 2) htm]) hP) hS dX6_meetRest_144
            · skip
              have c4' := Int32.not_le.mp c4
              have hn9 : n < 6 := by have := lp_lt (by omega) c4; rw [show (6 : Int32).toInt = 6 from rfl] at this; omega
              refine lv_iload_n hx hb dX6_meetRest_85 rfl (lv_at hl 2 rfl) ?_
              refine lv_iload hx hb dX6_meetRest_86 (lv_at hl 6 rfl) ?_
              refine ro_i (run_SN (As := [.int (tm), .int (nI n)]) (rest := []) hC.1 ckX8_has (kX8_has l tm (nI n)) (hK.2.2 _ _ _ _ m_697) (fb_nil _) (fun _ _ _ => trivial) ⟨rfl, rfl, Nat.le_of_ble_eq_true rfl, Nat.le_of_ble_eq_true rfl⟩ rfl hl.1 rfl (Nat.le_of_ble_eq_true rfl) dX6_meetRest_88 ⟨Nat.le_of_ble_eq_true rfl, Nat.le_of_ble_eq_true rfl⟩) ?_
              refine lv_if_ne (tgt := 97) hx hb dX6_meetRest_91 (by decide) (fun c5 => ?_) (fun c5 => ?_)
              · skip
                have c5 := b2i_1 c5
                refine lv_aload_n hx hb dX6_meetRest_97 rfl (lv_at hl 0 rfl) ?_
                refine kget hC.1 hK (kP_app.mp hP).1 0 rfl rfl in_6 4 (by decide) (gw_in m_248 rfl) rfl dX6_meetRest_98 ?_
                refine lv_iload_n hx hb dX6_meetRest_101 rfl (lv_at hl 3 rfl) ?_
                refine lv_iload hx hb dX6_meetRest_102 (lv_at hl 6 rfl) ?_
                refine kast (B' := tW g t (c 0) (fun k => sx k 0) (fld (mtS i 2 2 r2 tm) n (bs, bc, p1, p2)).1 (fld (mtS i 2 2 r2 tm) n (bs, bc, p1, p2)).2.1 (upd (fld (mtS i 2 2 r2 tm) n (bs, bc, p1, p2)).2.2.1 2 (nI n)) (fld (mtS i 2 2 r2 tm) n (bs, bc, p1, p2)).2.2.2 p3 p4 p5) hC.1 hK hP hD hS 2 rfl (show vp_in (nI 2) 6 from vp_in_nI (by omega) (by omega)) (fun _ h => by rw [show cl 2 = 2 from by decide] at h; exact h) tW_adr dX6_meetRest_104 (fun H locs hP hD hS => ?_)
                refine lv_aload hx hb dX6_meetRest_105 (lv_at hl 5 rfl) ?_
                refine lv_aload hx hb dX6_meetRest_107 (lv_at hl 4 rfl) ?_
                have hP : kP g (yW g (sx 3) y3.1 ++ (yW g (sx 2) r2 ++ (tW g t (c 0) (fun k => sx k 0) (fld (mtS i 2 2 r2 tm) n (bs, bc, p1, p2)).1 (fld (mtS i 2 2 r2 tm) n (bs, bc, p1, p2)).2.1 (upd (fld (mtS i 2 2 r2 tm) n (bs, bc, p1, p2)).2.2.1 2 (nI n)) (fld (mtS i 2 2 r2 tm) n (bs, bc, p1, p2)).2.2.2 p3 p4 p5 ++ (yW g (sx 4) y4.1 ++ (yW g (sx 5) y5.1 ++ []))))) _ := kP_perm (((pmA _ (pm_swap _ _ _)).trans (pm_swap _ _ _)).trans (pmA _ (pm_swap _ _ _))) hP
                have hD : va_D _ (yW g (sx 3) y3.1 ++ (yW g (sx 2) r2 ++ (tW g t (c 0) (fun k => sx k 0) (fld (mtS i 2 2 r2 tm) n (bs, bc, p1, p2)).1 (fld (mtS i 2 2 r2 tm) n (bs, bc, p1, p2)).2.1 (upd (fld (mtS i 2 2 r2 tm) n (bs, bc, p1, p2)).2.2.1 2 (nI n)) (fld (mtS i 2 2 r2 tm) n (bs, bc, p1, p2)).2.2.2 p3 p4 p5 ++ (yW g (sx 4) y4.1 ++ (yW g (sx 5) y5.1 ++ []))))) := vD_perm (((pmA _ (pm_swap _ _ _)).trans (pm_swap _ _ _)).trans (pmA _ (pm_swap _ _ _))) hD
                refine rw_v (run_V (As := [.ref ((sx 2) 0)]) (rest := []) hC.1 ckX7_copyChangesOf (kX7_copyChangesOf l g (sx 3) (sx 2) y3.1 r2) (gw_in m_700 rfl) (fb_rw _ _ _) (va_recv hK.1 (kP_app.mp hP).1 (q0 := 0) rfl rfl) (fun U hU hW => ⟨by rw [hU]; exact (kP_app.mpr ⟨(kP_app.mp hP).1, (kP_app.mpr ⟨(kP_app.mp (kP_app.mp hP).2).1, kP_nil⟩)⟩), kK_warm hW hK, vD_sub (sbA _ (sbA _ (sb0 _))) hD⟩) ⟨rfl, rfl, Nat.le_of_ble_eq_true rfl, Nat.le_of_ble_eq_true rfl⟩ rfl hl.1 rfl (Nat.le_of_ble_eq_true rfl) dX6_meetRest_109 ⟨Nat.le_of_ble_eq_true rfl, Nat.le_of_ble_eq_true rfl⟩) (adr_app yW_adr (adr_app rfl rfl)) (asc2 _ _ _) (ww' := yW g (sx 3) (chg y3.1 r2) ++ (yW g (sx 2) r2 ++ (tW g t (c 0) (fun k => sx k 0) (fld (mtS i 2 2 r2 tm) n (bs, bc, p1, p2)).1 (fld (mtS i 2 2 r2 tm) n (bs, bc, p1, p2)).2.1 (upd (fld (mtS i 2 2 r2 tm) n (bs, bc, p1, p2)).2.2.1 2 (nI n)) (fld (mtS i 2 2 r2 tm) n (bs, bc, p1, p2)).2.2.2 p3 p4 p5 ++ (yW g (sx 4) y4.1 ++ (yW g (sx 5) y5.1 ++ []))))) (asc2 _ _ _) hP hD hS (fun H locs hP hD hS => ?_)
                rw [show (chg y3.1 r2) = r2 from chg_ag y3.2] at hP hD
                refine lv_aload hx hb dX6_meetRest_112 (lv_at hl 5 rfl) ?_
                refine lv_iload_n hx hb dX6_meetRest_114 rfl (lv_at hl 1 rfl) ?_
                refine lv_iload hx hb dX6_meetRest_115 (lv_at hl 6 rfl) ?_
                refine lv_iconst (v := 1) hx hb dX6_meetRest_117 rfl ?_
                refine rw_i (run_S (As := [.ref ((sx 3) 0), .int (i), .int (nI n), .int (1)]) (rest := []) hC.1 ckX6_fight (kX6_fight l g (sx 3) r2 i (nI n) true hw) (gw_in m_648 rfl) (fb_rw _ _ _) (fun U hU hW => ⟨by rw [hU]; exact (kP_app.mpr ⟨(kP_app.mp hP).1, kP_nil⟩), kK_warm hW hK, vD_sub (sbA _ (sb0 _)) hD⟩) ⟨rfl, rfl, Nat.le_of_ble_eq_true rfl, Nat.le_of_ble_eq_true rfl⟩ rfl hl.1 rfl (Nat.le_of_ble_eq_true rfl) dX6_meetRest_118 ⟨Nat.le_of_ble_eq_true rfl, Nat.le_of_ble_eq_true rfl⟩) (adr_app yW_adr rfl) (asc1 _ _) (ww' := yW g (sx 3) (fgt true i (nI n) 60 0 r2).2 ++ (yW g (sx 2) r2 ++ (tW g t (c 0) (fun k => sx k 0) (fld (mtS i 2 2 r2 tm) n (bs, bc, p1, p2)).1 (fld (mtS i 2 2 r2 tm) n (bs, bc, p1, p2)).2.1 (upd (fld (mtS i 2 2 r2 tm) n (bs, bc, p1, p2)).2.2.1 2 (nI n)) (fld (mtS i 2 2 r2 tm) n (bs, bc, p1, p2)).2.2.2 p3 p4 p5 ++ (yW g (sx 4) y4.1 ++ (yW g (sx 5) y5.1 ++ []))))) (asc1 _ _) hP hD hS (fun H locs hP hD hS => ?_)
                refine lv_pop hx hb dX6_meetRest_121 rfl ?_
                refine lv_aload_n hx hb dX6_meetRest_122 rfl (lv_at hl 0 rfl) ?_
                refine lv_iload_n hx hb dX6_meetRest_123 rfl (lv_at hl 1 rfl) ?_
                refine lv_iload_n hx hb dX6_meetRest_124 rfl (lv_at hl 2 rfl) ?_
                refine lv_iconst (v := 1) hx hb dX6_meetRest_125 rfl ?_
                refine lv_iload hx hb dX6_meetRest_126 (lv_at hl 6 rfl) ?_
                refine lv_ishl hx hb dX6_meetRest_128 ?_
                refine top_i (x := 1 <<< ((nI n) &&& 31)) (y := (1 : Int32) <<< (nI n &&& 31)) rfl ?_
                refine lv_iconst (v := -1) hx hb dX6_meetRest_129 rfl ?_
                refine lv_ixor hx hb dX6_meetRest_130 ?_
                refine lv_iand hx hb dX6_meetRest_131 ?_
                refine lv_iload_n hx hb dX6_meetRest_132 rfl (lv_at hl 3 rfl) ?_
                refine lv_iconst (v := 1) hx hb dX6_meetRest_133 rfl ?_
                refine lv_iadd hx hb dX6_meetRest_134 ?_
                refine top_i (x := 2 + 1) (y := 3) (by decide) ?_
                have hP : kP g (tW g t (c 0) (fun k => sx k 0) (fld (mtS i 2 2 r2 tm) n (bs, bc, p1, p2)).1 (fld (mtS i 2 2 r2 tm) n (bs, bc, p1, p2)).2.1 (upd (fld (mtS i 2 2 r2 tm) n (bs, bc, p1, p2)).2.2.1 2 (nI n)) (fld (mtS i 2 2 r2 tm) n (bs, bc, p1, p2)).2.2.2 p3 p4 p5 ++ (yW g (sx 3) (fgt true i (nI n) 60 0 r2).2 ++ (yW g (sx 4) y4.1 ++ (yW g (sx 5) y5.1 ++ (yW g (sx 2) r2 ++ []))))) _ := kP_perm ((((pmA _ (pm_swap _ _ _)).trans (pm_swap _ _ _)).trans (pmA _ (pmA _ (pm_swap _ _ _)))).trans (pmA _ (pmA _ (pmA _ (pm_swap _ _ _))))) hP
                have hD : va_D _ (tW g t (c 0) (fun k => sx k 0) (fld (mtS i 2 2 r2 tm) n (bs, bc, p1, p2)).1 (fld (mtS i 2 2 r2 tm) n (bs, bc, p1, p2)).2.1 (upd (fld (mtS i 2 2 r2 tm) n (bs, bc, p1, p2)).2.2.1 2 (nI n)) (fld (mtS i 2 2 r2 tm) n (bs, bc, p1, p2)).2.2.2 p3 p4 p5 ++ (yW g (sx 3) (fgt true i (nI n) 60 0 r2).2 ++ (yW g (sx 4) y4.1 ++ (yW g (sx 5) y5.1 ++ (yW g (sx 2) r2 ++ []))))) := vD_perm ((((pmA _ (pm_swap _ _ _)).trans (pm_swap _ _ _)).trans (pmA _ (pmA _ (pm_swap _ _ _)))).trans (pmA _ (pmA _ (pmA _ (pm_swap _ _ _))))) hD
                refine rx_v (run_V (rm := rmN 7) (As := [.int (i), .int (tm &&& (((1 : Int32) <<< (nI n &&& 31)) ^^^ (-1))), .int (3)]) (rest := []) hC.1 ckX6_meetRest (kX6_meetRest_3 l g t c sx (fld (mtS i 2 2 r2 tm) n (bs, bc, p1, p2)).1 (fld (mtS i 2 2 r2 tm) n (bs, bc, p1, p2)).2.1 (upd (fld (mtS i 2 2 r2 tm) n (bs, bc, p1, p2)).2.2.1 2 (nI n)) (fld (mtS i 2 2 r2 tm) n (bs, bc, p1, p2)).2.2.2 p3 p4 p5 (fgt true i (nI n) 60 0 r2).2 y4.1 y5.1 i (tm &&& (((1 : Int32) <<< (nI n &&& 31)) ^^^ (-1))) (Wf_fgt hw) (Ag_tr2 Ag_fgt y4.2) (Ag_tr2 Ag_fgt y5.2)) (gw_in m_686 rfl) (fb_rw _ _ _) (va_recv hK.1 (kP_app.mp hP).1 (q0 := 0) rfl rfl) (fun U hU hW => ⟨by rw [hU]; exact (kP_app.mpr ⟨(kP_app.mp hP).1, (kP_app.mpr ⟨(kP_app.mp (kP_app.mp hP).2).1, (kP_app.mpr ⟨(kP_app.mp (kP_app.mp (kP_app.mp hP).2).2).1, (kP_app.mpr ⟨(kP_app.mp (kP_app.mp (kP_app.mp (kP_app.mp hP).2).2).2).1, kP_nil⟩)⟩)⟩)⟩), kK_warm hW hK, vD_sub (sbA _ (sbA _ (sbA _ (sbA _ (sb0 _))))) hD⟩) ⟨rfl, rfl, Nat.le_of_ble_eq_true rfl, Nat.le_of_ble_eq_true rfl⟩ rfl hl.1 rfl (Nat.le_of_ble_eq_true rfl) dX6_meetRest_135 ⟨Nat.le_of_ble_eq_true rfl, Nat.le_of_ble_eq_true rfl⟩) (fun u => (adr_app tW_adr (adr_app rfl (adr_app yW_adr (adr_app yW_adr rfl))))) (asc4 _ _ _ _ _) (ww' := fun u9 : ({z : Nat → Int32 // Ag (fgt true i (nI n) 60 0 r2).2 z}) × ({z : Nat → Int32 // Ag (fgt true i (nI n) 60 0 r2).2 z}) => tW g t (c 0) (fun k => sx k 0) (mtF i 2 3 (fgt true i (nI n) 60 0 r2).2 (tm &&& (((1 : Int32) <<< (nI n &&& 31)) ^^^ (-1))) ((fld (mtS i 2 2 r2 tm) n (bs, bc, p1, p2)).1, (fld (mtS i 2 2 r2 tm) n (bs, bc, p1, p2)).2.1, (upd (fld (mtS i 2 2 r2 tm) n (bs, bc, p1, p2)).2.2.1 2 (nI n)), (fld (mtS i 2 2 r2 tm) n (bs, bc, p1, p2)).2.2.2)).1 (mtF i 2 3 (fgt true i (nI n) 60 0 r2).2 (tm &&& (((1 : Int32) <<< (nI n &&& 31)) ^^^ (-1))) ((fld (mtS i 2 2 r2 tm) n (bs, bc, p1, p2)).1, (fld (mtS i 2 2 r2 tm) n (bs, bc, p1, p2)).2.1, (upd (fld (mtS i 2 2 r2 tm) n (bs, bc, p1, p2)).2.2.1 2 (nI n)), (fld (mtS i 2 2 r2 tm) n (bs, bc, p1, p2)).2.2.2)).2.1 (mtF i 2 3 (fgt true i (nI n) 60 0 r2).2 (tm &&& (((1 : Int32) <<< (nI n &&& 31)) ^^^ (-1))) ((fld (mtS i 2 2 r2 tm) n (bs, bc, p1, p2)).1, (fld (mtS i 2 2 r2 tm) n (bs, bc, p1, p2)).2.1, (upd (fld (mtS i 2 2 r2 tm) n (bs, bc, p1, p2)).2.2.1 2 (nI n)), (fld (mtS i 2 2 r2 tm) n (bs, bc, p1, p2)).2.2.2)).2.2.1 (mtF i 2 3 (fgt true i (nI n) 60 0 r2).2 (tm &&& (((1 : Int32) <<< (nI n &&& 31)) ^^^ (-1))) ((fld (mtS i 2 2 r2 tm) n (bs, bc, p1, p2)).1, (fld (mtS i 2 2 r2 tm) n (bs, bc, p1, p2)).2.1, (upd (fld (mtS i 2 2 r2 tm) n (bs, bc, p1, p2)).2.2.1 2 (nI n)), (fld (mtS i 2 2 r2 tm) n (bs, bc, p1, p2)).2.2.2)).2.2.2 p3 p4 p5 ++ (yW g (sx 3) (fgt true i (nI n) 60 0 r2).2 ++ (yW g (sx 4) u9.1.1 ++ (yW g (sx 5) u9.2.1 ++ (yW g (sx 2) r2 ++ []))))) (fun u => asc4 _ _ _ _ _) hP hD hS (fun u H locs hP hD hS => ?_)
                obtain ⟨x6, x7⟩ := u
                have hP : kP g (tW g t (c 0) (fun k => sx k 0) (mtF i 2 3 (fgt true i (nI n) 60 0 r2).2 (tm &&& (((1 : Int32) <<< (nI n &&& 31)) ^^^ (-1))) ((fld (mtS i 2 2 r2 tm) n (bs, bc, p1, p2)).1, (fld (mtS i 2 2 r2 tm) n (bs, bc, p1, p2)).2.1, (upd (fld (mtS i 2 2 r2 tm) n (bs, bc, p1, p2)).2.2.1 2 (nI n)), (fld (mtS i 2 2 r2 tm) n (bs, bc, p1, p2)).2.2.2)).1 (mtF i 2 3 (fgt true i (nI n) 60 0 r2).2 (tm &&& (((1 : Int32) <<< (nI n &&& 31)) ^^^ (-1))) ((fld (mtS i 2 2 r2 tm) n (bs, bc, p1, p2)).1, (fld (mtS i 2 2 r2 tm) n (bs, bc, p1, p2)).2.1, (upd (fld (mtS i 2 2 r2 tm) n (bs, bc, p1, p2)).2.2.1 2 (nI n)), (fld (mtS i 2 2 r2 tm) n (bs, bc, p1, p2)).2.2.2)).2.1 (mtF i 2 3 (fgt true i (nI n) 60 0 r2).2 (tm &&& (((1 : Int32) <<< (nI n &&& 31)) ^^^ (-1))) ((fld (mtS i 2 2 r2 tm) n (bs, bc, p1, p2)).1, (fld (mtS i 2 2 r2 tm) n (bs, bc, p1, p2)).2.1, (upd (fld (mtS i 2 2 r2 tm) n (bs, bc, p1, p2)).2.2.1 2 (nI n)), (fld (mtS i 2 2 r2 tm) n (bs, bc, p1, p2)).2.2.2)).2.2.1 (mtF i 2 3 (fgt true i (nI n) 60 0 r2).2 (tm &&& (((1 : Int32) <<< (nI n &&& 31)) ^^^ (-1))) ((fld (mtS i 2 2 r2 tm) n (bs, bc, p1, p2)).1, (fld (mtS i 2 2 r2 tm) n (bs, bc, p1, p2)).2.1, (upd (fld (mtS i 2 2 r2 tm) n (bs, bc, p1, p2)).2.2.1 2 (nI n)), (fld (mtS i 2 2 r2 tm) n (bs, bc, p1, p2)).2.2.2)).2.2.2 p3 p4 p5 ++ (yW g (sx 3) (fgt true i (nI n) 60 0 r2).2 ++ (yW g (sx 4) x6.1 ++ (yW g (sx 5) x7.1 ++ (yW g (sx 2) r2 ++ []))))) H := hP
                have hD : va_D _ (tW g t (c 0) (fun k => sx k 0) (mtF i 2 3 (fgt true i (nI n) 60 0 r2).2 (tm &&& (((1 : Int32) <<< (nI n &&& 31)) ^^^ (-1))) ((fld (mtS i 2 2 r2 tm) n (bs, bc, p1, p2)).1, (fld (mtS i 2 2 r2 tm) n (bs, bc, p1, p2)).2.1, (upd (fld (mtS i 2 2 r2 tm) n (bs, bc, p1, p2)).2.2.1 2 (nI n)), (fld (mtS i 2 2 r2 tm) n (bs, bc, p1, p2)).2.2.2)).1 (mtF i 2 3 (fgt true i (nI n) 60 0 r2).2 (tm &&& (((1 : Int32) <<< (nI n &&& 31)) ^^^ (-1))) ((fld (mtS i 2 2 r2 tm) n (bs, bc, p1, p2)).1, (fld (mtS i 2 2 r2 tm) n (bs, bc, p1, p2)).2.1, (upd (fld (mtS i 2 2 r2 tm) n (bs, bc, p1, p2)).2.2.1 2 (nI n)), (fld (mtS i 2 2 r2 tm) n (bs, bc, p1, p2)).2.2.2)).2.1 (mtF i 2 3 (fgt true i (nI n) 60 0 r2).2 (tm &&& (((1 : Int32) <<< (nI n &&& 31)) ^^^ (-1))) ((fld (mtS i 2 2 r2 tm) n (bs, bc, p1, p2)).1, (fld (mtS i 2 2 r2 tm) n (bs, bc, p1, p2)).2.1, (upd (fld (mtS i 2 2 r2 tm) n (bs, bc, p1, p2)).2.2.1 2 (nI n)), (fld (mtS i 2 2 r2 tm) n (bs, bc, p1, p2)).2.2.2)).2.2.1 (mtF i 2 3 (fgt true i (nI n) 60 0 r2).2 (tm &&& (((1 : Int32) <<< (nI n &&& 31)) ^^^ (-1))) ((fld (mtS i 2 2 r2 tm) n (bs, bc, p1, p2)).1, (fld (mtS i 2 2 r2 tm) n (bs, bc, p1, p2)).2.1, (upd (fld (mtS i 2 2 r2 tm) n (bs, bc, p1, p2)).2.2.1 2 (nI n)), (fld (mtS i 2 2 r2 tm) n (bs, bc, p1, p2)).2.2.2)).2.2.2 p3 p4 p5 ++ (yW g (sx 3) (fgt true i (nI n) 60 0 r2).2 ++ (yW g (sx 4) x6.1 ++ (yW g (sx 5) x7.1 ++ (yW g (sx 2) r2 ++ []))))) := hD
                refine lv_iinc (v := nI (n + 1)) (lv' := [(6, .int (nI (n + 1))), (0, .ref (t 0)), (1, .int (i)), (2, .int (tm)), (3, .int (2)), (4, .ref ((sx 2) 0)), (5, .ref ((sx 3) 0))]) hx hb dX6_meetRest_138 hl (k := 6) rfl (inc_nI n) (by decide) rfl (fun ls hl => ?_)
                refine lv_goto (tgt := 78) hx hb dX6_meetRest_141 (by decide) ?_
                have e9 : fld (mtS i 2 2 r2 tm) (n + 1) (bs, bc, p1, p2) = mtF i 2 3 (fgt true i (nI n) 60 0 r2).2 (tm &&& ((1 : Int32) <<< (nI n &&& 31) ^^^ (-1))) ((fld (mtS i 2 2 r2 tm) n (bs, bc, p1, p2)).1, (fld (mtS i 2 2 r2 tm) n (bs, bc, p1, p2)).2.1, upd (fld (mtS i 2 2 r2 tm) n (bs, bc, p1, p2)).2.2.1 2 (nI n), (fld (mtS i 2 2 r2 tm) n (bs, bc, p1, p2)).2.2.2) := mtS_t c5
                have hP : kP g (tW g t (c 0) (fun k => sx k 0) (fld (mtS i 2 2 r2 tm) (n + 1) (bs, bc, p1, p2)).1 (fld (mtS i 2 2 r2 tm) (n + 1) (bs, bc, p1, p2)).2.1 (fld (mtS i 2 2 r2 tm) (n + 1) (bs, bc, p1, p2)).2.2.1 (fld (mtS i 2 2 r2 tm) (n + 1) (bs, bc, p1, p2)).2.2.2 p3 p4 p5 ++ (yW g (sx 3) (fgt true i (nI n) 60 0 r2).2 ++ (yW g (sx 4) x6.1 ++ (yW g (sx 5) x7.1 ++ (yW g (sx 2) r2 ++ []))))) _ := kP_eq (by rw [e9]) hP
                have hD : va_D _ (tW g t (c 0) (fun k => sx k 0) (fld (mtS i 2 2 r2 tm) (n + 1) (bs, bc, p1, p2)).1 (fld (mtS i 2 2 r2 tm) (n + 1) (bs, bc, p1, p2)).2.1 (fld (mtS i 2 2 r2 tm) (n + 1) (bs, bc, p1, p2)).2.2.1 (fld (mtS i 2 2 r2 tm) (n + 1) (bs, bc, p1, p2)).2.2.2 p3 p4 p5 ++ (yW g (sx 3) (fgt true i (nI n) 60 0 r2).2 ++ (yW g (sx 4) x6.1 ++ (yW g (sx 5) x7.1 ++ (yW g (sx 2) r2 ++ []))))) := vD_eq (by rw [e9]) hD
                have hP : kP g (tW g t (c 0) (fun k => sx k 0) (fld (mtS i 2 2 r2 tm) (n + 1) (bs, bc, p1, p2)).1 (fld (mtS i 2 2 r2 tm) (n + 1) (bs, bc, p1, p2)).2.1 (fld (mtS i 2 2 r2 tm) (n + 1) (bs, bc, p1, p2)).2.2.1 (fld (mtS i 2 2 r2 tm) (n + 1) (bs, bc, p1, p2)).2.2.2 p3 p4 p5 ++ (yW g (sx 2) r2 ++ (yW g (sx 3) (fgt true i (nI n) 60 0 r2).2 ++ (yW g (sx 4) x6.1 ++ (yW g (sx 5) x7.1 ++ []))))) _ := kP_perm (((pmA _ (pmA _ (pmA _ (pm_swap _ _ _)))).trans (pmA _ (pmA _ (pm_swap _ _ _)))).trans (pmA _ (pm_swap _ _ _))) hP
                have hD : va_D _ (tW g t (c 0) (fun k => sx k 0) (fld (mtS i 2 2 r2 tm) (n + 1) (bs, bc, p1, p2)).1 (fld (mtS i 2 2 r2 tm) (n + 1) (bs, bc, p1, p2)).2.1 (fld (mtS i 2 2 r2 tm) (n + 1) (bs, bc, p1, p2)).2.2.1 (fld (mtS i 2 2 r2 tm) (n + 1) (bs, bc, p1, p2)).2.2.2 p3 p4 p5 ++ (yW g (sx 2) r2 ++ (yW g (sx 3) (fgt true i (nI n) 60 0 r2).2 ++ (yW g (sx 4) x6.1 ++ (yW g (sx 5) x7.1 ++ []))))) := vD_perm (((pmA _ (pmA _ (pmA _ (pm_swap _ _ _)))).trans (pmA _ (pmA _ (pm_swap _ _ _)))).trans (pmA _ (pm_swap _ _ _))) hD
                exact ih78 (n + 1) (⟨(fgt true i (nI n) 60 0 r2).2, Ag_fgt⟩) (⟨x6.1, Ag_tr Ag_fgt x6.2⟩) (⟨x7.1, Ag_tr Ag_fgt x7.2⟩) (by omega) (by omega) _ _ hP hD hS _ (lv_sub hl [1, 2, 3, 4, 5, 6, 0] rfl)
              · skip
                have c5 := b2i_0 c5
                refine lv_goto (tgt := 138) hx hb dX6_meetRest_94 (by decide) ?_
                refine lv_iinc (v := nI (n + 1)) (lv' := [(6, .int (nI (n + 1))), (0, .ref (t 0)), (1, .int (i)), (2, .int (tm)), (3, .int (2)), (4, .ref ((sx 2) 0)), (5, .ref ((sx 3) 0))]) hx hb dX6_meetRest_138 hl (k := 6) rfl (inc_nI n) (by decide) rfl (fun ls hl => ?_)
                refine lv_goto (tgt := 78) hx hb dX6_meetRest_141 (by decide) ?_
                have e9 : fld (mtS i 2 2 r2 tm) (n + 1) (bs, bc, p1, p2) = fld (mtS i 2 2 r2 tm) n (bs, bc, p1, p2) := mtS_f c5
                have hP : kP g (tW g t (c 0) (fun k => sx k 0) (fld (mtS i 2 2 r2 tm) (n + 1) (bs, bc, p1, p2)).1 (fld (mtS i 2 2 r2 tm) (n + 1) (bs, bc, p1, p2)).2.1 (fld (mtS i 2 2 r2 tm) (n + 1) (bs, bc, p1, p2)).2.2.1 (fld (mtS i 2 2 r2 tm) (n + 1) (bs, bc, p1, p2)).2.2.2 p3 p4 p5 ++ (yW g (sx 2) r2 ++ (yW g (sx 3) y3.1 ++ (yW g (sx 4) y4.1 ++ (yW g (sx 5) y5.1 ++ []))))) _ := kP_eq (by rw [e9]) hP
                have hD : va_D _ (tW g t (c 0) (fun k => sx k 0) (fld (mtS i 2 2 r2 tm) (n + 1) (bs, bc, p1, p2)).1 (fld (mtS i 2 2 r2 tm) (n + 1) (bs, bc, p1, p2)).2.1 (fld (mtS i 2 2 r2 tm) (n + 1) (bs, bc, p1, p2)).2.2.1 (fld (mtS i 2 2 r2 tm) (n + 1) (bs, bc, p1, p2)).2.2.2 p3 p4 p5 ++ (yW g (sx 2) r2 ++ (yW g (sx 3) y3.1 ++ (yW g (sx 4) y4.1 ++ (yW g (sx 5) y5.1 ++ []))))) := vD_eq (by rw [e9]) hD
                exact ih78 (n + 1) y3 y4 y5 (by omega) (by omega) _ _ hP hD hS _ (lv_sub hl [1, 2, 3, 4, 5, 6, 0] rfl)
        exact cut78 _ 0 (⟨r3, ha3⟩) (⟨r4, ha4⟩) (⟨r5, ha5⟩) (Nat.lt_succ_self _) (by omega) _ _ hP hD hS _ (lv_sub hl [3, 4, 5, 6, 2, 1, 0] rfl)
    · skip
      have htm := c2
      refine lv_aload_n hx hb dX6_meetRest_28 rfl (lv_at hl 1 rfl) ?_
      refine lv_aload hx hb dX6_meetRest_29 (lv_at hl 0 rfl) ?_
      refine lv_iload_n hx hb dX6_meetRest_31 rfl (lv_at hl 2 rfl) ?_
      refine lv_iconst (v := 5) hx hb dX6_meetRest_32 rfl ?_
      refine ro_i (run_V (As := [.int (i), .int (5)]) (rest := [.ref (t 0)]) hC.1 ckX7_fact (kX7_fact l g (sx 2) r2 i 5 hw) (gw_in m_691 rfl) (fb_ro _ _ _) (va_recv hK.1 (kP_app.mp (kP_app.mp hP).2).1 (q0 := 0) rfl rfl) (fun U hU hW => ⟨by rw [hU]; exact (kP_app.mp (kP_app.mp hP).2).1, kK_warm hW hK⟩) ⟨rfl, rfl, Nat.le_of_ble_eq_true rfl, Nat.le_of_ble_eq_true rfl⟩ rfl hl.1 rfl (Nat.le_of_ble_eq_true rfl) dX6_meetRest_33 ⟨Nat.le_of_ble_eq_true rfl, Nat.le_of_ble_eq_true rfl⟩) ?_
      refine lv_aload hx hb dX6_meetRest_36 (lv_at hl 0 rfl) ?_
      refine lv_iload_n hx hb dX6_meetRest_38 rfl (lv_at hl 2 rfl) ?_
      refine lv_iconst (v := 4) hx hb dX6_meetRest_39 rfl ?_
      refine ro_i (run_V (As := [.int (i), .int (4)]) (rest := [.int (yFact r2 i 5), .ref (t 0)]) hC.1 ckX7_fact (kX7_fact l g (sx 2) r2 i 4 hw) (gw_in m_691 rfl) (fb_ro _ _ _) (va_recv hK.1 (kP_app.mp (kP_app.mp hP).2).1 (q0 := 0) rfl rfl) (fun U hU hW => ⟨by rw [hU]; exact (kP_app.mp (kP_app.mp hP).2).1, kK_warm hW hK⟩) ⟨rfl, rfl, Nat.le_of_ble_eq_true rfl, Nat.le_of_ble_eq_true rfl⟩ rfl hl.1 rfl (Nat.le_of_ble_eq_true rfl) dX6_meetRest_40 ⟨Nat.le_of_ble_eq_true rfl, Nat.le_of_ble_eq_true rfl⟩) ?_
      refine rw_v (run_V (As := [.int (yFact r2 i 5), .int (yFact r2 i 4)]) (rest := []) hC.1 ckX6_keepIfBetter (kX6_keepIfBetter l g t c (fun k => sx k 0) bs bc p1 p2 p3 p4 p5 (yFact r2 i 5) (yFact r2 i 4)) (gw_in m_692 rfl) (fb_rw _ _ _) (va_recv hK.1 (kP_app.mp hP).1 (q0 := 0) rfl rfl) (fun U hU hW => ⟨by rw [hU]; exact (kP_app.mpr ⟨(kP_app.mp hP).1, kP_nil⟩), kK_warm hW hK, vD_sub (sbA _ (sb0 _)) hD⟩) ⟨rfl, rfl, Nat.le_of_ble_eq_true rfl, Nat.le_of_ble_eq_true rfl⟩ rfl hl.1 rfl (Nat.le_of_ble_eq_true rfl) dX6_meetRest_43 ⟨Nat.le_of_ble_eq_true rfl, Nat.le_of_ble_eq_true rfl⟩) (adr_app tW_adr rfl) (asc1 _ _) (ww' := tW g t (c 0) (fun k => sx k 0) (if kbB (yFact r2 i 5) (yFact r2 i 4) bs bc = true then (yFact r2 i 5) else bs) (if kbB (yFact r2 i 5) (yFact r2 i 4) bs bc = true then (yFact r2 i 4) else bc) p1 (if kbB (yFact r2 i 5) (yFact r2 i 4) bs bc = true then p1 else p2) p3 p4 p5 ++ (yW g (sx 2) r2 ++ (yW g (sx 3) r3 ++ (yW g (sx 4) r4 ++ (yW g (sx 5) r5 ++ []))))) (asc1 _ _) hP hD hS (fun H locs hP hD hS => ?_)
      exact ret_rxv (S := ({z : Nat → Int32 // Ag r2 z}) × ({z : Nat → Int32 // Ag r2 z}) × ({z : Nat → Int32 // Ag r2 z})) ((⟨r3, ha3⟩), (⟨r4, ha4⟩), (⟨r5, ha5⟩)) hx hb hr hlk (kP_eq (by simp only [mtF_0 htm, kbS]) hP) hS dX6_meetRest_46
  · skip
    have c1 := b2i_0 c1
    exact absurd (show wth 2 0 5 = true from by decide) (by rw [c1]; decide)
set_option maxHeartbeats 4000000 in
set_option maxRecDepth 100000 in
theorem kX6_meetRest_1 (l : Launch) (g : gG) (t c : Nat → Nat) (sx : Nat → Nat → Nat) (bs bc : Int32) (p1 p2 p3 p4 p5 r1 r2 r3 r4 r5 : Nat → Int32) (i tm : Int32) (hw : Wf r1) (ha2 : Ag r1 r2) (ha3 : Ag r1 r3) (ha4 : Ag r1 r4) (ha5 : Ag r1 r5) : Met l yX6_meetRest (.code yX6_meetRest cX6_meetRest 7 none :: gw) (rmN 9) (va_Pc [.ref (t 0), .int (i), .int (tm), .int (1)] (rwPre g (tW g t (c 0) (fun k => sx k 0) bs bc p1 p2 p3 p4 p5 ++ (yW g (sx 1) r1 ++ (yW g (sx 2) r2 ++ (yW g (sx 3) r3 ++ (yW g (sx 4) r4 ++ (yW g (sx 5) r5 ++ [])))))))) (rxQv g (tW g t (c 0) (fun k => sx k 0) bs bc p1 p2 p3 p4 p5 ++ (yW g (sx 1) r1 ++ (yW g (sx 2) r2 ++ (yW g (sx 3) r3 ++ (yW g (sx 4) r4 ++ (yW g (sx 5) r5 ++ [])))))) (fun u9 : ({z : Nat → Int32 // Ag r1 z}) × ({z : Nat → Int32 // Ag r1 z}) × ({z : Nat → Int32 // Ag r1 z}) × ({z : Nat → Int32 // Ag r1 z}) => tW g t (c 0) (fun k => sx k 0) (mtF i 4 1 r1 tm (bs, bc, p1, p2)).1 (mtF i 4 1 r1 tm (bs, bc, p1, p2)).2.1 (mtF i 4 1 r1 tm (bs, bc, p1, p2)).2.2.1 (mtF i 4 1 r1 tm (bs, bc, p1, p2)).2.2.2 p3 p4 p5 ++ (yW g (sx 1) r1 ++ (yW g (sx 2) u9.1.1 ++ (yW g (sx 3) u9.2.1.1 ++ (yW g (sx 4) u9.2.2.1.1 ++ (yW g (sx 5) u9.2.2.2.1 ++ []))))))) 0 0 (dm (tW g t (c 0) (fun k => sx k 0) bs bc p1 p2 p3 p4 p5 ++ (yW g (sx 1) r1 ++ (yW g (sx 2) r2 ++ (yW g (sx 3) r3 ++ (yW g (sx 4) r4 ++ (yW g (sx 5) r5 ++ []))))))) := by
  refine met_start (by decide) (Nat.le_of_ble_eq_true rfl) ?_
  intro pp ee ss mm bl mt cd hC hpre ls hl
  obtain ⟨⟨hx, hb, hml, hown, hts⟩, hr, hlk, hnm⟩ := id hC
  have hl : lv_has ls 7 [(0, .ref (t 0)), (1, .int (i)), (2, .int (tm)), (3, .int (1))] := hl
  obtain ⟨hP, hK, hD⟩ := hpre
  have hS : va_S (dm (tW g t (c 0) (fun k => sx k 0) bs bc p1 p2 p3 p4 p5 ++ (yW g (sx 1) r1 ++ (yW g (sx 2) r2 ++ (yW g (sx 3) r3 ++ (yW g (sx 4) r4 ++ (yW g (sx 5) r5 ++ []))))))) ss.heap ss.heap [] := va_S.rf
  have hD := vD_self hD
  refine lv_iload_n hx hb dX6_meetRest_0 rfl (lv_at hl 3 rfl) ?_
  refine lv_iconst (v := 0) hx hb dX6_meetRest_1 rfl ?_
  refine lv_iconst (v := 5) hx hb dX6_meetRest_2 rfl ?_
  refine ro_i (run_SN (As := [.int (1), .int (0), .int (5)]) (rest := []) hC.1 ckX8_within (kX8_within l 1 0 5) (hK.2.2 _ _ _ _ m_690) (fb_nil _) (fun _ _ _ => trivial) ⟨rfl, rfl, Nat.le_of_ble_eq_true rfl, Nat.le_of_ble_eq_true rfl⟩ rfl hl.1 rfl (Nat.le_of_ble_eq_true rfl) dX6_meetRest_3 ⟨Nat.le_of_ble_eq_true rfl, Nat.le_of_ble_eq_true rfl⟩) ?_
  refine lv_if_ne (tgt := 10) hx hb dX6_meetRest_6 (by decide) (fun c1 => ?_) (fun c1 => ?_)
  · skip
    have c1 := b2i_1 c1
    refine lv_aload_n hx hb dX6_meetRest_10 rfl (lv_at hl 0 rfl) ?_
    refine kget hC.1 hK (kP_app.mp hP).1 0 rfl rfl in_6 3 (by decide) (gw_in m_247 rfl) rfl dX6_meetRest_11 ?_
    refine lv_iload_n hx hb dX6_meetRest_14 rfl (lv_at hl 3 rfl) ?_
    refine kaldq (v := .ref ((sx 1) 0)) 3 hC.1 hK (kP_app.mp hP).1 1 rfl rfl (show vp_in (nI 1) 6 from vp_in_nI (by omega) (by omega)) rfl dX6_meetRest_15 ?_
    refine lv_astore (lv' := [(4, .ref ((sx 1) 0)), (0, .ref (t 0)), (1, .int (i)), (2, .int (tm)), (3, .int (1))]) hx hb dX6_meetRest_16 hl (by decide) rfl (fun ls hl => ?_)
    refine lv_aload hx hb dX6_meetRest_18 (lv_at hl 0 rfl) ?_
    refine lv_ifnonnull (tgt := 24) hx hb dX6_meetRest_20 (by decide) ?_
    refine lv_iload_n hx hb dX6_meetRest_24 rfl (lv_at hl 3 rfl) ?_
    refine lv_if_ne (tgt := 47) hx hb dX6_meetRest_25 (by decide) (fun c2 => ?_) (fun c2 => ?_)
    · skip
      have htm := c2
      refine lv_iload_n hx hb dX6_meetRest_47 rfl (lv_at hl 4 rfl) ?_
      refine lv_iconst (v := 1) hx hb dX6_meetRest_48 rfl ?_
      refine lv_iadd hx hb dX6_meetRest_49 ?_
      refine top_i (x := 1 + 1) (y := 2) (by decide) ?_
      refine lv_bipush (v := 6) hx hb dX6_meetRest_50 rfl ?_
      refine lv_icmp_ge (tgt := 66) hx hb dX6_meetRest_52 (by decide) (fun c3 => ?_) (fun c3 => ?_)
      · skip
        exact absurd c3 (by decide)
      · skip
        refine lv_aload_n hx hb dX6_meetRest_55 rfl (lv_at hl 1 rfl) ?_
        refine kget hC.1 hK (kP_app.mp hP).1 0 rfl rfl in_6 3 (by decide) (gw_in m_247 rfl) rfl dX6_meetRest_56 ?_
        refine lv_iload_n hx hb dX6_meetRest_59 rfl (lv_at hl 4 rfl) ?_
        refine lv_iconst (v := 1) hx hb dX6_meetRest_60 rfl ?_
        refine lv_iadd hx hb dX6_meetRest_61 ?_
        refine top_i (x := 1 + 1) (y := 2) (by decide) ?_
        refine kaldq (v := .ref ((sx 2) 0)) 3 hC.1 hK (kP_app.mp hP).1 1 rfl rfl (show vp_in (nI 2) 6 from vp_in_nI (by omega) (by omega)) rfl dX6_meetRest_62 ?_
        refine lv_goto (tgt := 67) hx hb dX6_meetRest_63 (by decide) ?_
        refine lv_astore (lv' := [(5, .ref ((sx 2) 0)), (4, .ref ((sx 1) 0)), (0, .ref (t 0)), (1, .int (i)), (2, .int (tm)), (3, .int (1))]) hx hb dX6_meetRest_67 hl (by decide) rfl (fun ls hl => ?_)
        refine lv_aload hx hb dX6_meetRest_69 (lv_at hl 0 rfl) ?_
        refine lv_ifnonnull (tgt := 75) hx hb dX6_meetRest_71 (by decide) ?_
        refine lv_iconst (v := 0) hx hb dX6_meetRest_75 rfl ?_
        refine lv_istore (lv' := [(6, .int (0)), (5, .ref ((sx 2) 0)), (4, .ref ((sx 1) 0)), (0, .ref (t 0)), (1, .int (i)), (2, .int (tm)), (3, .int (1))]) hx hb dX6_meetRest_76 hl (by decide) rfl (fun ls hl => ?_)
        have cut78 : ∀ kk : Nat, ∀ (n : Nat) (y2 : {z : Nat → Int32 // Ag r1 z}) (y3 : {z : Nat → Int32 // Ag r1 z}) (y4 : {z : Nat → Int32 // Ag r1 z}) (y5 : {z : Nat → Int32 // Ag r1 z}), 7 - n < kk → (hn : n ≤ 6) → ∀ (H : Heap) (locs : List Loc), kP g (tW g t (c 0) (fun k => sx k 0) (fld (mtS i 3 1 r1 tm) n (bs, bc, p1, p2)).1 (fld (mtS i 3 1 r1 tm) n (bs, bc, p1, p2)).2.1 (fld (mtS i 3 1 r1 tm) n (bs, bc, p1, p2)).2.2.1 (fld (mtS i 3 1 r1 tm) n (bs, bc, p1, p2)).2.2.2 p3 p4 p5 ++ (yW g (sx 1) r1 ++ (yW g (sx 2) y2.1 ++ (yW g (sx 3) y3.1 ++ (yW g (sx 4) y4.1 ++ (yW g (sx 5) y5.1 ++ [])))))) H → va_D (dm (tW g t (c 0) (fun k => sx k 0) bs bc p1 p2 p3 p4 p5 ++ (yW g (sx 1) r1 ++ (yW g (sx 2) r2 ++ (yW g (sx 3) r3 ++ (yW g (sx 4) r4 ++ (yW g (sx 5) r5 ++ []))))))) (tW g t (c 0) (fun k => sx k 0) (fld (mtS i 3 1 r1 tm) n (bs, bc, p1, p2)).1 (fld (mtS i 3 1 r1 tm) n (bs, bc, p1, p2)).2.1 (fld (mtS i 3 1 r1 tm) n (bs, bc, p1, p2)).2.2.1 (fld (mtS i 3 1 r1 tm) n (bs, bc, p1, p2)).2.2.2 p3 p4 p5 ++ (yW g (sx 1) r1 ++ (yW g (sx 2) y2.1 ++ (yW g (sx 3) y3.1 ++ (yW g (sx 4) y4.1 ++ (yW g (sx 5) y5.1 ++ [])))))) → va_S (dm (tW g t (c 0) (fun k => sx k 0) bs bc p1 p2 p3 p4 p5 ++ (yW g (sx 1) r1 ++ (yW g (sx 2) r2 ++ (yW g (sx 3) r3 ++ (yW g (sx 4) r4 ++ (yW g (sx 5) r5 ++ []))))))) ss.heap H locs → ∀ (ls : Array Slot), lv_has ls 7 [(0, .ref (t 0)), (1, .int (i)), (2, .int (tm)), (3, .int (1)), (4, .ref ((sx 1) 0)), (5, .ref ((sx 2) 0)), (6, .int (nI n))] → W pp l ee (rmN 9) ss mm ([.ref (t 0), .int (i), .int (tm), .int (1)] : List Value).toArray bl mt cd H locs 0 0 (MQ bl (rxQv g (tW g t (c 0) (fun k => sx k 0) bs bc p1 p2 p3 p4 p5 ++ (yW g (sx 1) r1 ++ (yW g (sx 2) r2 ++ (yW g (sx 3) r3 ++ (yW g (sx 4) r4 ++ (yW g (sx 5) r5 ++ [])))))) (fun u9 : ({z : Nat → Int32 // Ag r1 z}) × ({z : Nat → Int32 // Ag r1 z}) × ({z : Nat → Int32 // Ag r1 z}) × ({z : Nat → Int32 // Ag r1 z}) => tW g t (c 0) (fun k => sx k 0) (mtF i 4 1 r1 tm (bs, bc, p1, p2)).1 (mtF i 4 1 r1 tm (bs, bc, p1, p2)).2.1 (mtF i 4 1 r1 tm (bs, bc, p1, p2)).2.2.1 (mtF i 4 1 r1 tm (bs, bc, p1, p2)).2.2.2 p3 p4 p5 ++ (yW g (sx 1) r1 ++ (yW g (sx 2) u9.1.1 ++ (yW g (sx 3) u9.2.1.1 ++ (yW g (sx 4) u9.2.2.1.1 ++ (yW g (sx 5) u9.2.2.2.1 ++ []))))))) ([.ref (t 0), .int (i), .int (tm), .int (1)] : List Value).toArray ss 0 0 (dm (tW g t (c 0) (fun k => sx k 0) bs bc p1 p2 p3 p4 p5 ++ (yW g (sx 1) r1 ++ (yW g (sx 2) r2 ++ (yW g (sx 3) r3 ++ (yW g (sx 4) r4 ++ (yW g (sx 5) r5 ++ [])))))))) (F0 mm 78 ls []) := by
          intro kk
          induction kk with
          | zero => intro n y2 y3 y4 y5 hmu; exact absurd hmu (Nat.not_lt_zero _)
          | succ kk ih78 =>
            intro n y2 y3 y4 y5 hmu hn H locs hP hD hS ls hl
            refine lv_iload hx hb dX6_meetRest_78 (lv_at hl 6 rfl) ?_
            refine lv_bipush (v := 6) hx hb dX6_meetRest_80 rfl ?_
            refine lv_icmp_ge (tgt := 144) hx hb dX6_meetRest_82 (by decide) (fun c4 => ?_) (fun c4 => ?_)
            · skip
              have c4' := Int32.not_lt.mpr c4
              have hn9 : n = 6 := by have := lp_ge (by omega) c4; rw [show (6 : Int32).toInt = 6 from rfl] at this; omega
              subst hn9
              exact ret_rxv (S := ({z : Nat → Int32 // Ag r1 z}) × ({z : Nat → Int32 // Ag r1 z}) × ({z : Nat → Int32 // Ag r1 z}) × ({z : Nat → Int32 // Ag r1 z})) (y2, y3, y4, y5) hx hb hr hlk (kP_eq (by rw [show mtF i 4 1 r1 tm (bs, bc, p1, p2) = fld (mtS i 3 1 r1 tm) 6 (bs, bc, p1, p2) from mtF_s (d := 3) htm]) hP) hS dX6_meetRest_144
            · skip
              have c4' := Int32.not_le.mp c4
              have hn9 : n < 6 := by have := lp_lt (by omega) c4; rw [show (6 : Int32).toInt = 6 from rfl] at this; omega
              refine lv_iload_n hx hb dX6_meetRest_85 rfl (lv_at hl 2 rfl) ?_
              refine lv_iload hx hb dX6_meetRest_86 (lv_at hl 6 rfl) ?_
              refine ro_i (run_SN (As := [.int (tm), .int (nI n)]) (rest := []) hC.1 ckX8_has (kX8_has l tm (nI n)) (hK.2.2 _ _ _ _ m_697) (fb_nil _) (fun _ _ _ => trivial) ⟨rfl, rfl, Nat.le_of_ble_eq_true rfl, Nat.le_of_ble_eq_true rfl⟩ rfl hl.1 rfl (Nat.le_of_ble_eq_true rfl) dX6_meetRest_88 ⟨Nat.le_of_ble_eq_true rfl, Nat.le_of_ble_eq_true rfl⟩) ?_
              refine lv_if_ne (tgt := 97) hx hb dX6_meetRest_91 (by decide) (fun c5 => ?_) (fun c5 => ?_)
              · skip
                have c5 := b2i_1 c5
                refine lv_aload_n hx hb dX6_meetRest_97 rfl (lv_at hl 0 rfl) ?_
                refine kget hC.1 hK (kP_app.mp hP).1 0 rfl rfl in_6 4 (by decide) (gw_in m_248 rfl) rfl dX6_meetRest_98 ?_
                refine lv_iload_n hx hb dX6_meetRest_101 rfl (lv_at hl 3 rfl) ?_
                refine lv_iload hx hb dX6_meetRest_102 (lv_at hl 6 rfl) ?_
                refine kast (B' := tW g t (c 0) (fun k => sx k 0) (fld (mtS i 3 1 r1 tm) n (bs, bc, p1, p2)).1 (fld (mtS i 3 1 r1 tm) n (bs, bc, p1, p2)).2.1 (upd (fld (mtS i 3 1 r1 tm) n (bs, bc, p1, p2)).2.2.1 1 (nI n)) (fld (mtS i 3 1 r1 tm) n (bs, bc, p1, p2)).2.2.2 p3 p4 p5) hC.1 hK hP hD hS 2 rfl (show vp_in (nI 1) 6 from vp_in_nI (by omega) (by omega)) (fun _ h => by rw [show cl 1 = 1 from by decide] at h; exact h) tW_adr dX6_meetRest_104 (fun H locs hP hD hS => ?_)
                refine lv_aload hx hb dX6_meetRest_105 (lv_at hl 5 rfl) ?_
                refine lv_aload hx hb dX6_meetRest_107 (lv_at hl 4 rfl) ?_
                have hP : kP g (yW g (sx 2) y2.1 ++ (yW g (sx 1) r1 ++ (tW g t (c 0) (fun k => sx k 0) (fld (mtS i 3 1 r1 tm) n (bs, bc, p1, p2)).1 (fld (mtS i 3 1 r1 tm) n (bs, bc, p1, p2)).2.1 (upd (fld (mtS i 3 1 r1 tm) n (bs, bc, p1, p2)).2.2.1 1 (nI n)) (fld (mtS i 3 1 r1 tm) n (bs, bc, p1, p2)).2.2.2 p3 p4 p5 ++ (yW g (sx 3) y3.1 ++ (yW g (sx 4) y4.1 ++ (yW g (sx 5) y5.1 ++ [])))))) _ := kP_perm (((pmA _ (pm_swap _ _ _)).trans (pm_swap _ _ _)).trans (pmA _ (pm_swap _ _ _))) hP
                have hD : va_D _ (yW g (sx 2) y2.1 ++ (yW g (sx 1) r1 ++ (tW g t (c 0) (fun k => sx k 0) (fld (mtS i 3 1 r1 tm) n (bs, bc, p1, p2)).1 (fld (mtS i 3 1 r1 tm) n (bs, bc, p1, p2)).2.1 (upd (fld (mtS i 3 1 r1 tm) n (bs, bc, p1, p2)).2.2.1 1 (nI n)) (fld (mtS i 3 1 r1 tm) n (bs, bc, p1, p2)).2.2.2 p3 p4 p5 ++ (yW g (sx 3) y3.1 ++ (yW g (sx 4) y4.1 ++ (yW g (sx 5) y5.1 ++ [])))))) := vD_perm (((pmA _ (pm_swap _ _ _)).trans (pm_swap _ _ _)).trans (pmA _ (pm_swap _ _ _))) hD
                refine rw_v (run_V (As := [.ref ((sx 1) 0)]) (rest := []) hC.1 ckX7_copyChangesOf (kX7_copyChangesOf l g (sx 2) (sx 1) y2.1 r1) (gw_in m_700 rfl) (fb_rw _ _ _) (va_recv hK.1 (kP_app.mp hP).1 (q0 := 0) rfl rfl) (fun U hU hW => ⟨by rw [hU]; exact (kP_app.mpr ⟨(kP_app.mp hP).1, (kP_app.mpr ⟨(kP_app.mp (kP_app.mp hP).2).1, kP_nil⟩)⟩), kK_warm hW hK, vD_sub (sbA _ (sbA _ (sb0 _))) hD⟩) ⟨rfl, rfl, Nat.le_of_ble_eq_true rfl, Nat.le_of_ble_eq_true rfl⟩ rfl hl.1 rfl (Nat.le_of_ble_eq_true rfl) dX6_meetRest_109 ⟨Nat.le_of_ble_eq_true rfl, Nat.le_of_ble_eq_true rfl⟩) (adr_app yW_adr (adr_app rfl rfl)) (asc2 _ _ _) (ww' := yW g (sx 2) (chg y2.1 r1) ++ (yW g (sx 1) r1 ++ (tW g t (c 0) (fun k => sx k 0) (fld (mtS i 3 1 r1 tm) n (bs, bc, p1, p2)).1 (fld (mtS i 3 1 r1 tm) n (bs, bc, p1, p2)).2.1 (upd (fld (mtS i 3 1 r1 tm) n (bs, bc, p1, p2)).2.2.1 1 (nI n)) (fld (mtS i 3 1 r1 tm) n (bs, bc, p1, p2)).2.2.2 p3 p4 p5 ++ (yW g (sx 3) y3.1 ++ (yW g (sx 4) y4.1 ++ (yW g (sx 5) y5.1 ++ [])))))) (asc2 _ _ _) hP hD hS (fun H locs hP hD hS => ?_)
                rw [show (chg y2.1 r1) = r1 from chg_ag y2.2] at hP hD
                refine lv_aload hx hb dX6_meetRest_112 (lv_at hl 5 rfl) ?_
                refine lv_iload_n hx hb dX6_meetRest_114 rfl (lv_at hl 1 rfl) ?_
                refine lv_iload hx hb dX6_meetRest_115 (lv_at hl 6 rfl) ?_
                refine lv_iconst (v := 1) hx hb dX6_meetRest_117 rfl ?_
                refine rw_i (run_S (As := [.ref ((sx 2) 0), .int (i), .int (nI n), .int (1)]) (rest := []) hC.1 ckX6_fight (kX6_fight l g (sx 2) r1 i (nI n) true hw) (gw_in m_648 rfl) (fb_rw _ _ _) (fun U hU hW => ⟨by rw [hU]; exact (kP_app.mpr ⟨(kP_app.mp hP).1, kP_nil⟩), kK_warm hW hK, vD_sub (sbA _ (sb0 _)) hD⟩) ⟨rfl, rfl, Nat.le_of_ble_eq_true rfl, Nat.le_of_ble_eq_true rfl⟩ rfl hl.1 rfl (Nat.le_of_ble_eq_true rfl) dX6_meetRest_118 ⟨Nat.le_of_ble_eq_true rfl, Nat.le_of_ble_eq_true rfl⟩) (adr_app yW_adr rfl) (asc1 _ _) (ww' := yW g (sx 2) (fgt true i (nI n) 60 0 r1).2 ++ (yW g (sx 1) r1 ++ (tW g t (c 0) (fun k => sx k 0) (fld (mtS i 3 1 r1 tm) n (bs, bc, p1, p2)).1 (fld (mtS i 3 1 r1 tm) n (bs, bc, p1, p2)).2.1 (upd (fld (mtS i 3 1 r1 tm) n (bs, bc, p1, p2)).2.2.1 1 (nI n)) (fld (mtS i 3 1 r1 tm) n (bs, bc, p1, p2)).2.2.2 p3 p4 p5 ++ (yW g (sx 3) y3.1 ++ (yW g (sx 4) y4.1 ++ (yW g (sx 5) y5.1 ++ [])))))) (asc1 _ _) hP hD hS (fun H locs hP hD hS => ?_)
                refine lv_pop hx hb dX6_meetRest_121 rfl ?_
                refine lv_aload_n hx hb dX6_meetRest_122 rfl (lv_at hl 0 rfl) ?_
                refine lv_iload_n hx hb dX6_meetRest_123 rfl (lv_at hl 1 rfl) ?_
                refine lv_iload_n hx hb dX6_meetRest_124 rfl (lv_at hl 2 rfl) ?_
                refine lv_iconst (v := 1) hx hb dX6_meetRest_125 rfl ?_
                refine lv_iload hx hb dX6_meetRest_126 (lv_at hl 6 rfl) ?_
                refine lv_ishl hx hb dX6_meetRest_128 ?_
                refine top_i (x := 1 <<< ((nI n) &&& 31)) (y := (1 : Int32) <<< (nI n &&& 31)) rfl ?_
                refine lv_iconst (v := -1) hx hb dX6_meetRest_129 rfl ?_
                refine lv_ixor hx hb dX6_meetRest_130 ?_
                refine lv_iand hx hb dX6_meetRest_131 ?_
                refine lv_iload_n hx hb dX6_meetRest_132 rfl (lv_at hl 3 rfl) ?_
                refine lv_iconst (v := 1) hx hb dX6_meetRest_133 rfl ?_
                refine lv_iadd hx hb dX6_meetRest_134 ?_
                refine top_i (x := 1 + 1) (y := 2) (by decide) ?_
                have hP : kP g (tW g t (c 0) (fun k => sx k 0) (fld (mtS i 3 1 r1 tm) n (bs, bc, p1, p2)).1 (fld (mtS i 3 1 r1 tm) n (bs, bc, p1, p2)).2.1 (upd (fld (mtS i 3 1 r1 tm) n (bs, bc, p1, p2)).2.2.1 1 (nI n)) (fld (mtS i 3 1 r1 tm) n (bs, bc, p1, p2)).2.2.2 p3 p4 p5 ++ (yW g (sx 2) (fgt true i (nI n) 60 0 r1).2 ++ (yW g (sx 3) y3.1 ++ (yW g (sx 4) y4.1 ++ (yW g (sx 5) y5.1 ++ (yW g (sx 1) r1 ++ [])))))) _ := kP_perm (((((pmA _ (pm_swap _ _ _)).trans (pm_swap _ _ _)).trans (pmA _ (pmA _ (pm_swap _ _ _)))).trans (pmA _ (pmA _ (pmA _ (pm_swap _ _ _))))).trans (pmA _ (pmA _ (pmA _ (pmA _ (pm_swap _ _ _)))))) hP
                have hD : va_D _ (tW g t (c 0) (fun k => sx k 0) (fld (mtS i 3 1 r1 tm) n (bs, bc, p1, p2)).1 (fld (mtS i 3 1 r1 tm) n (bs, bc, p1, p2)).2.1 (upd (fld (mtS i 3 1 r1 tm) n (bs, bc, p1, p2)).2.2.1 1 (nI n)) (fld (mtS i 3 1 r1 tm) n (bs, bc, p1, p2)).2.2.2 p3 p4 p5 ++ (yW g (sx 2) (fgt true i (nI n) 60 0 r1).2 ++ (yW g (sx 3) y3.1 ++ (yW g (sx 4) y4.1 ++ (yW g (sx 5) y5.1 ++ (yW g (sx 1) r1 ++ [])))))) := vD_perm (((((pmA _ (pm_swap _ _ _)).trans (pm_swap _ _ _)).trans (pmA _ (pmA _ (pm_swap _ _ _)))).trans (pmA _ (pmA _ (pmA _ (pm_swap _ _ _))))).trans (pmA _ (pmA _ (pmA _ (pmA _ (pm_swap _ _ _)))))) hD
                refine rx_v (run_V (rm := rmN 8) (As := [.int (i), .int (tm &&& (((1 : Int32) <<< (nI n &&& 31)) ^^^ (-1))), .int (2)]) (rest := []) hC.1 ckX6_meetRest (kX6_meetRest_2 l g t c sx (fld (mtS i 3 1 r1 tm) n (bs, bc, p1, p2)).1 (fld (mtS i 3 1 r1 tm) n (bs, bc, p1, p2)).2.1 (upd (fld (mtS i 3 1 r1 tm) n (bs, bc, p1, p2)).2.2.1 1 (nI n)) (fld (mtS i 3 1 r1 tm) n (bs, bc, p1, p2)).2.2.2 p3 p4 p5 (fgt true i (nI n) 60 0 r1).2 y3.1 y4.1 y5.1 i (tm &&& (((1 : Int32) <<< (nI n &&& 31)) ^^^ (-1))) (Wf_fgt hw) (Ag_tr2 Ag_fgt y3.2) (Ag_tr2 Ag_fgt y4.2) (Ag_tr2 Ag_fgt y5.2)) (gw_in m_686 rfl) (fb_rw _ _ _) (va_recv hK.1 (kP_app.mp hP).1 (q0 := 0) rfl rfl) (fun U hU hW => ⟨by rw [hU]; exact (kP_app.mpr ⟨(kP_app.mp hP).1, (kP_app.mpr ⟨(kP_app.mp (kP_app.mp hP).2).1, (kP_app.mpr ⟨(kP_app.mp (kP_app.mp (kP_app.mp hP).2).2).1, (kP_app.mpr ⟨(kP_app.mp (kP_app.mp (kP_app.mp (kP_app.mp hP).2).2).2).1, (kP_app.mpr ⟨(kP_app.mp (kP_app.mp (kP_app.mp (kP_app.mp (kP_app.mp hP).2).2).2).2).1, kP_nil⟩)⟩)⟩)⟩)⟩), kK_warm hW hK, vD_sub (sbA _ (sbA _ (sbA _ (sbA _ (sbA _ (sb0 _)))))) hD⟩) ⟨rfl, rfl, Nat.le_of_ble_eq_true rfl, Nat.le_of_ble_eq_true rfl⟩ rfl hl.1 rfl (Nat.le_of_ble_eq_true rfl) dX6_meetRest_135 ⟨Nat.le_of_ble_eq_true rfl, Nat.le_of_ble_eq_true rfl⟩) (fun u => (adr_app tW_adr (adr_app rfl (adr_app yW_adr (adr_app yW_adr (adr_app yW_adr rfl)))))) (asc5 _ _ _ _ _ _) (ww' := fun u9 : ({z : Nat → Int32 // Ag (fgt true i (nI n) 60 0 r1).2 z}) × ({z : Nat → Int32 // Ag (fgt true i (nI n) 60 0 r1).2 z}) × ({z : Nat → Int32 // Ag (fgt true i (nI n) 60 0 r1).2 z}) => tW g t (c 0) (fun k => sx k 0) (mtF i 3 2 (fgt true i (nI n) 60 0 r1).2 (tm &&& (((1 : Int32) <<< (nI n &&& 31)) ^^^ (-1))) ((fld (mtS i 3 1 r1 tm) n (bs, bc, p1, p2)).1, (fld (mtS i 3 1 r1 tm) n (bs, bc, p1, p2)).2.1, (upd (fld (mtS i 3 1 r1 tm) n (bs, bc, p1, p2)).2.2.1 1 (nI n)), (fld (mtS i 3 1 r1 tm) n (bs, bc, p1, p2)).2.2.2)).1 (mtF i 3 2 (fgt true i (nI n) 60 0 r1).2 (tm &&& (((1 : Int32) <<< (nI n &&& 31)) ^^^ (-1))) ((fld (mtS i 3 1 r1 tm) n (bs, bc, p1, p2)).1, (fld (mtS i 3 1 r1 tm) n (bs, bc, p1, p2)).2.1, (upd (fld (mtS i 3 1 r1 tm) n (bs, bc, p1, p2)).2.2.1 1 (nI n)), (fld (mtS i 3 1 r1 tm) n (bs, bc, p1, p2)).2.2.2)).2.1 (mtF i 3 2 (fgt true i (nI n) 60 0 r1).2 (tm &&& (((1 : Int32) <<< (nI n &&& 31)) ^^^ (-1))) ((fld (mtS i 3 1 r1 tm) n (bs, bc, p1, p2)).1, (fld (mtS i 3 1 r1 tm) n (bs, bc, p1, p2)).2.1, (upd (fld (mtS i 3 1 r1 tm) n (bs, bc, p1, p2)).2.2.1 1 (nI n)), (fld (mtS i 3 1 r1 tm) n (bs, bc, p1, p2)).2.2.2)).2.2.1 (mtF i 3 2 (fgt true i (nI n) 60 0 r1).2 (tm &&& (((1 : Int32) <<< (nI n &&& 31)) ^^^ (-1))) ((fld (mtS i 3 1 r1 tm) n (bs, bc, p1, p2)).1, (fld (mtS i 3 1 r1 tm) n (bs, bc, p1, p2)).2.1, (upd (fld (mtS i 3 1 r1 tm) n (bs, bc, p1, p2)).2.2.1 1 (nI n)), (fld (mtS i 3 1 r1 tm) n (bs, bc, p1, p2)).2.2.2)).2.2.2 p3 p4 p5 ++ (yW g (sx 2) (fgt true i (nI n) 60 0 r1).2 ++ (yW g (sx 3) u9.1.1 ++ (yW g (sx 4) u9.2.1.1 ++ (yW g (sx 5) u9.2.2.1 ++ (yW g (sx 1) r1 ++ [])))))) (fun u => asc5 _ _ _ _ _ _) hP hD hS (fun u H locs hP hD hS => ?_)
                obtain ⟨x6, x7, x8⟩ := u
                have hP : kP g (tW g t (c 0) (fun k => sx k 0) (mtF i 3 2 (fgt true i (nI n) 60 0 r1).2 (tm &&& (((1 : Int32) <<< (nI n &&& 31)) ^^^ (-1))) ((fld (mtS i 3 1 r1 tm) n (bs, bc, p1, p2)).1, (fld (mtS i 3 1 r1 tm) n (bs, bc, p1, p2)).2.1, (upd (fld (mtS i 3 1 r1 tm) n (bs, bc, p1, p2)).2.2.1 1 (nI n)), (fld (mtS i 3 1 r1 tm) n (bs, bc, p1, p2)).2.2.2)).1 (mtF i 3 2 (fgt true i (nI n) 60 0 r1).2 (tm &&& (((1 : Int32) <<< (nI n &&& 31)) ^^^ (-1))) ((fld (mtS i 3 1 r1 tm) n (bs, bc, p1, p2)).1, (fld (mtS i 3 1 r1 tm) n (bs, bc, p1, p2)).2.1, (upd (fld (mtS i 3 1 r1 tm) n (bs, bc, p1, p2)).2.2.1 1 (nI n)), (fld (mtS i 3 1 r1 tm) n (bs, bc, p1, p2)).2.2.2)).2.1 (mtF i 3 2 (fgt true i (nI n) 60 0 r1).2 (tm &&& (((1 : Int32) <<< (nI n &&& 31)) ^^^ (-1))) ((fld (mtS i 3 1 r1 tm) n (bs, bc, p1, p2)).1, (fld (mtS i 3 1 r1 tm) n (bs, bc, p1, p2)).2.1, (upd (fld (mtS i 3 1 r1 tm) n (bs, bc, p1, p2)).2.2.1 1 (nI n)), (fld (mtS i 3 1 r1 tm) n (bs, bc, p1, p2)).2.2.2)).2.2.1 (mtF i 3 2 (fgt true i (nI n) 60 0 r1).2 (tm &&& (((1 : Int32) <<< (nI n &&& 31)) ^^^ (-1))) ((fld (mtS i 3 1 r1 tm) n (bs, bc, p1, p2)).1, (fld (mtS i 3 1 r1 tm) n (bs, bc, p1, p2)).2.1, (upd (fld (mtS i 3 1 r1 tm) n (bs, bc, p1, p2)).2.2.1 1 (nI n)), (fld (mtS i 3 1 r1 tm) n (bs, bc, p1, p2)).2.2.2)).2.2.2 p3 p4 p5 ++ (yW g (sx 2) (fgt true i (nI n) 60 0 r1).2 ++ (yW g (sx 3) x6.1 ++ (yW g (sx 4) x7.1 ++ (yW g (sx 5) x8.1 ++ (yW g (sx 1) r1 ++ [])))))) H := hP
                have hD : va_D _ (tW g t (c 0) (fun k => sx k 0) (mtF i 3 2 (fgt true i (nI n) 60 0 r1).2 (tm &&& (((1 : Int32) <<< (nI n &&& 31)) ^^^ (-1))) ((fld (mtS i 3 1 r1 tm) n (bs, bc, p1, p2)).1, (fld (mtS i 3 1 r1 tm) n (bs, bc, p1, p2)).2.1, (upd (fld (mtS i 3 1 r1 tm) n (bs, bc, p1, p2)).2.2.1 1 (nI n)), (fld (mtS i 3 1 r1 tm) n (bs, bc, p1, p2)).2.2.2)).1 (mtF i 3 2 (fgt true i (nI n) 60 0 r1).2 (tm &&& (((1 : Int32) <<< (nI n &&& 31)) ^^^ (-1))) ((fld (mtS i 3 1 r1 tm) n (bs, bc, p1, p2)).1, (fld (mtS i 3 1 r1 tm) n (bs, bc, p1, p2)).2.1, (upd (fld (mtS i 3 1 r1 tm) n (bs, bc, p1, p2)).2.2.1 1 (nI n)), (fld (mtS i 3 1 r1 tm) n (bs, bc, p1, p2)).2.2.2)).2.1 (mtF i 3 2 (fgt true i (nI n) 60 0 r1).2 (tm &&& (((1 : Int32) <<< (nI n &&& 31)) ^^^ (-1))) ((fld (mtS i 3 1 r1 tm) n (bs, bc, p1, p2)).1, (fld (mtS i 3 1 r1 tm) n (bs, bc, p1, p2)).2.1, (upd (fld (mtS i 3 1 r1 tm) n (bs, bc, p1, p2)).2.2.1 1 (nI n)), (fld (mtS i 3 1 r1 tm) n (bs, bc, p1, p2)).2.2.2)).2.2.1 (mtF i 3 2 (fgt true i (nI n) 60 0 r1).2 (tm &&& (((1 : Int32) <<< (nI n &&& 31)) ^^^ (-1))) ((fld (mtS i 3 1 r1 tm) n (bs, bc, p1, p2)).1, (fld (mtS i 3 1 r1 tm) n (bs, bc, p1, p2)).2.1, (upd (fld (mtS i 3 1 r1 tm) n (bs, bc, p1, p2)).2.2.1 1 (nI n)), (fld (mtS i 3 1 r1 tm) n (bs, bc, p1, p2)).2.2.2)).2.2.2 p3 p4 p5 ++ (yW g (sx 2) (fgt true i (nI n) 60 0 r1).2 ++ (yW g (sx 3) x6.1 ++ (yW g (sx 4) x7.1 ++ (yW g (sx 5) x8.1 ++ (yW g (sx 1) r1 ++ [])))))) := hD
                refine lv_iinc (v := nI (n + 1)) (lv' := [(6, .int (nI (n + 1))), (0, .ref (t 0)), (1, .int (i)), (2, .int (tm)), (3, .int (1)), (4, .ref ((sx 1) 0)), (5, .ref ((sx 2) 0))]) hx hb dX6_meetRest_138 hl (k := 6) rfl (inc_nI n) (by decide) rfl (fun ls hl => ?_)
                refine lv_goto (tgt := 78) hx hb dX6_meetRest_141 (by decide) ?_
                have e9 : fld (mtS i 3 1 r1 tm) (n + 1) (bs, bc, p1, p2) = mtF i 3 2 (fgt true i (nI n) 60 0 r1).2 (tm &&& ((1 : Int32) <<< (nI n &&& 31) ^^^ (-1))) ((fld (mtS i 3 1 r1 tm) n (bs, bc, p1, p2)).1, (fld (mtS i 3 1 r1 tm) n (bs, bc, p1, p2)).2.1, upd (fld (mtS i 3 1 r1 tm) n (bs, bc, p1, p2)).2.2.1 1 (nI n), (fld (mtS i 3 1 r1 tm) n (bs, bc, p1, p2)).2.2.2) := mtS_t c5
                have hP : kP g (tW g t (c 0) (fun k => sx k 0) (fld (mtS i 3 1 r1 tm) (n + 1) (bs, bc, p1, p2)).1 (fld (mtS i 3 1 r1 tm) (n + 1) (bs, bc, p1, p2)).2.1 (fld (mtS i 3 1 r1 tm) (n + 1) (bs, bc, p1, p2)).2.2.1 (fld (mtS i 3 1 r1 tm) (n + 1) (bs, bc, p1, p2)).2.2.2 p3 p4 p5 ++ (yW g (sx 2) (fgt true i (nI n) 60 0 r1).2 ++ (yW g (sx 3) x6.1 ++ (yW g (sx 4) x7.1 ++ (yW g (sx 5) x8.1 ++ (yW g (sx 1) r1 ++ [])))))) _ := kP_eq (by rw [e9]) hP
                have hD : va_D _ (tW g t (c 0) (fun k => sx k 0) (fld (mtS i 3 1 r1 tm) (n + 1) (bs, bc, p1, p2)).1 (fld (mtS i 3 1 r1 tm) (n + 1) (bs, bc, p1, p2)).2.1 (fld (mtS i 3 1 r1 tm) (n + 1) (bs, bc, p1, p2)).2.2.1 (fld (mtS i 3 1 r1 tm) (n + 1) (bs, bc, p1, p2)).2.2.2 p3 p4 p5 ++ (yW g (sx 2) (fgt true i (nI n) 60 0 r1).2 ++ (yW g (sx 3) x6.1 ++ (yW g (sx 4) x7.1 ++ (yW g (sx 5) x8.1 ++ (yW g (sx 1) r1 ++ [])))))) := vD_eq (by rw [e9]) hD
                have hP : kP g (tW g t (c 0) (fun k => sx k 0) (fld (mtS i 3 1 r1 tm) (n + 1) (bs, bc, p1, p2)).1 (fld (mtS i 3 1 r1 tm) (n + 1) (bs, bc, p1, p2)).2.1 (fld (mtS i 3 1 r1 tm) (n + 1) (bs, bc, p1, p2)).2.2.1 (fld (mtS i 3 1 r1 tm) (n + 1) (bs, bc, p1, p2)).2.2.2 p3 p4 p5 ++ (yW g (sx 1) r1 ++ (yW g (sx 2) (fgt true i (nI n) 60 0 r1).2 ++ (yW g (sx 3) x6.1 ++ (yW g (sx 4) x7.1 ++ (yW g (sx 5) x8.1 ++ [])))))) _ := kP_perm ((((pmA _ (pmA _ (pmA _ (pmA _ (pm_swap _ _ _))))).trans (pmA _ (pmA _ (pmA _ (pm_swap _ _ _))))).trans (pmA _ (pmA _ (pm_swap _ _ _)))).trans (pmA _ (pm_swap _ _ _))) hP
                have hD : va_D _ (tW g t (c 0) (fun k => sx k 0) (fld (mtS i 3 1 r1 tm) (n + 1) (bs, bc, p1, p2)).1 (fld (mtS i 3 1 r1 tm) (n + 1) (bs, bc, p1, p2)).2.1 (fld (mtS i 3 1 r1 tm) (n + 1) (bs, bc, p1, p2)).2.2.1 (fld (mtS i 3 1 r1 tm) (n + 1) (bs, bc, p1, p2)).2.2.2 p3 p4 p5 ++ (yW g (sx 1) r1 ++ (yW g (sx 2) (fgt true i (nI n) 60 0 r1).2 ++ (yW g (sx 3) x6.1 ++ (yW g (sx 4) x7.1 ++ (yW g (sx 5) x8.1 ++ [])))))) := vD_perm ((((pmA _ (pmA _ (pmA _ (pmA _ (pm_swap _ _ _))))).trans (pmA _ (pmA _ (pmA _ (pm_swap _ _ _))))).trans (pmA _ (pmA _ (pm_swap _ _ _)))).trans (pmA _ (pm_swap _ _ _))) hD
                exact ih78 (n + 1) (⟨(fgt true i (nI n) 60 0 r1).2, Ag_fgt⟩) (⟨x6.1, Ag_tr Ag_fgt x6.2⟩) (⟨x7.1, Ag_tr Ag_fgt x7.2⟩) (⟨x8.1, Ag_tr Ag_fgt x8.2⟩) (by omega) (by omega) _ _ hP hD hS _ (lv_sub hl [1, 2, 3, 4, 5, 6, 0] rfl)
              · skip
                have c5 := b2i_0 c5
                refine lv_goto (tgt := 138) hx hb dX6_meetRest_94 (by decide) ?_
                refine lv_iinc (v := nI (n + 1)) (lv' := [(6, .int (nI (n + 1))), (0, .ref (t 0)), (1, .int (i)), (2, .int (tm)), (3, .int (1)), (4, .ref ((sx 1) 0)), (5, .ref ((sx 2) 0))]) hx hb dX6_meetRest_138 hl (k := 6) rfl (inc_nI n) (by decide) rfl (fun ls hl => ?_)
                refine lv_goto (tgt := 78) hx hb dX6_meetRest_141 (by decide) ?_
                have e9 : fld (mtS i 3 1 r1 tm) (n + 1) (bs, bc, p1, p2) = fld (mtS i 3 1 r1 tm) n (bs, bc, p1, p2) := mtS_f c5
                have hP : kP g (tW g t (c 0) (fun k => sx k 0) (fld (mtS i 3 1 r1 tm) (n + 1) (bs, bc, p1, p2)).1 (fld (mtS i 3 1 r1 tm) (n + 1) (bs, bc, p1, p2)).2.1 (fld (mtS i 3 1 r1 tm) (n + 1) (bs, bc, p1, p2)).2.2.1 (fld (mtS i 3 1 r1 tm) (n + 1) (bs, bc, p1, p2)).2.2.2 p3 p4 p5 ++ (yW g (sx 1) r1 ++ (yW g (sx 2) y2.1 ++ (yW g (sx 3) y3.1 ++ (yW g (sx 4) y4.1 ++ (yW g (sx 5) y5.1 ++ [])))))) _ := kP_eq (by rw [e9]) hP
                have hD : va_D _ (tW g t (c 0) (fun k => sx k 0) (fld (mtS i 3 1 r1 tm) (n + 1) (bs, bc, p1, p2)).1 (fld (mtS i 3 1 r1 tm) (n + 1) (bs, bc, p1, p2)).2.1 (fld (mtS i 3 1 r1 tm) (n + 1) (bs, bc, p1, p2)).2.2.1 (fld (mtS i 3 1 r1 tm) (n + 1) (bs, bc, p1, p2)).2.2.2 p3 p4 p5 ++ (yW g (sx 1) r1 ++ (yW g (sx 2) y2.1 ++ (yW g (sx 3) y3.1 ++ (yW g (sx 4) y4.1 ++ (yW g (sx 5) y5.1 ++ [])))))) := vD_eq (by rw [e9]) hD
                exact ih78 (n + 1) y2 y3 y4 y5 (by omega) (by omega) _ _ hP hD hS _ (lv_sub hl [1, 2, 3, 4, 5, 6, 0] rfl)
        exact cut78 _ 0 (⟨r2, ha2⟩) (⟨r3, ha3⟩) (⟨r4, ha4⟩) (⟨r5, ha5⟩) (Nat.lt_succ_self _) (by omega) _ _ hP hD hS _ (lv_sub hl [3, 4, 5, 6, 2, 1, 0] rfl)
    · skip
      have htm := c2
      refine lv_aload_n hx hb dX6_meetRest_28 rfl (lv_at hl 1 rfl) ?_
      refine lv_aload hx hb dX6_meetRest_29 (lv_at hl 0 rfl) ?_
      refine lv_iload_n hx hb dX6_meetRest_31 rfl (lv_at hl 2 rfl) ?_
      refine lv_iconst (v := 5) hx hb dX6_meetRest_32 rfl ?_
      refine ro_i (run_V (As := [.int (i), .int (5)]) (rest := [.ref (t 0)]) hC.1 ckX7_fact (kX7_fact l g (sx 1) r1 i 5 hw) (gw_in m_691 rfl) (fb_ro _ _ _) (va_recv hK.1 (kP_app.mp (kP_app.mp hP).2).1 (q0 := 0) rfl rfl) (fun U hU hW => ⟨by rw [hU]; exact (kP_app.mp (kP_app.mp hP).2).1, kK_warm hW hK⟩) ⟨rfl, rfl, Nat.le_of_ble_eq_true rfl, Nat.le_of_ble_eq_true rfl⟩ rfl hl.1 rfl (Nat.le_of_ble_eq_true rfl) dX6_meetRest_33 ⟨Nat.le_of_ble_eq_true rfl, Nat.le_of_ble_eq_true rfl⟩) ?_
      refine lv_aload hx hb dX6_meetRest_36 (lv_at hl 0 rfl) ?_
      refine lv_iload_n hx hb dX6_meetRest_38 rfl (lv_at hl 2 rfl) ?_
      refine lv_iconst (v := 4) hx hb dX6_meetRest_39 rfl ?_
      refine ro_i (run_V (As := [.int (i), .int (4)]) (rest := [.int (yFact r1 i 5), .ref (t 0)]) hC.1 ckX7_fact (kX7_fact l g (sx 1) r1 i 4 hw) (gw_in m_691 rfl) (fb_ro _ _ _) (va_recv hK.1 (kP_app.mp (kP_app.mp hP).2).1 (q0 := 0) rfl rfl) (fun U hU hW => ⟨by rw [hU]; exact (kP_app.mp (kP_app.mp hP).2).1, kK_warm hW hK⟩) ⟨rfl, rfl, Nat.le_of_ble_eq_true rfl, Nat.le_of_ble_eq_true rfl⟩ rfl hl.1 rfl (Nat.le_of_ble_eq_true rfl) dX6_meetRest_40 ⟨Nat.le_of_ble_eq_true rfl, Nat.le_of_ble_eq_true rfl⟩) ?_
      refine rw_v (run_V (As := [.int (yFact r1 i 5), .int (yFact r1 i 4)]) (rest := []) hC.1 ckX6_keepIfBetter (kX6_keepIfBetter l g t c (fun k => sx k 0) bs bc p1 p2 p3 p4 p5 (yFact r1 i 5) (yFact r1 i 4)) (gw_in m_692 rfl) (fb_rw _ _ _) (va_recv hK.1 (kP_app.mp hP).1 (q0 := 0) rfl rfl) (fun U hU hW => ⟨by rw [hU]; exact (kP_app.mpr ⟨(kP_app.mp hP).1, kP_nil⟩), kK_warm hW hK, vD_sub (sbA _ (sb0 _)) hD⟩) ⟨rfl, rfl, Nat.le_of_ble_eq_true rfl, Nat.le_of_ble_eq_true rfl⟩ rfl hl.1 rfl (Nat.le_of_ble_eq_true rfl) dX6_meetRest_43 ⟨Nat.le_of_ble_eq_true rfl, Nat.le_of_ble_eq_true rfl⟩) (adr_app tW_adr rfl) (asc1 _ _) (ww' := tW g t (c 0) (fun k => sx k 0) (if kbB (yFact r1 i 5) (yFact r1 i 4) bs bc = true then (yFact r1 i 5) else bs) (if kbB (yFact r1 i 5) (yFact r1 i 4) bs bc = true then (yFact r1 i 4) else bc) p1 (if kbB (yFact r1 i 5) (yFact r1 i 4) bs bc = true then p1 else p2) p3 p4 p5 ++ (yW g (sx 1) r1 ++ (yW g (sx 2) r2 ++ (yW g (sx 3) r3 ++ (yW g (sx 4) r4 ++ (yW g (sx 5) r5 ++ [])))))) (asc1 _ _) hP hD hS (fun H locs hP hD hS => ?_)
      exact ret_rxv (S := ({z : Nat → Int32 // Ag r1 z}) × ({z : Nat → Int32 // Ag r1 z}) × ({z : Nat → Int32 // Ag r1 z}) × ({z : Nat → Int32 // Ag r1 z})) ((⟨r2, ha2⟩), (⟨r3, ha3⟩), (⟨r4, ha4⟩), (⟨r5, ha5⟩)) hx hb hr hlk (kP_eq (by simp only [mtF_0 htm, kbS]) hP) hS dX6_meetRest_46
  · skip
    have c1 := b2i_0 c1
    exact absurd (show wth 1 0 5 = true from by decide) (by rw [c1]; decide)
set_option maxHeartbeats 4000000 in
set_option maxRecDepth 100000 in
theorem kX6_meetRest_0 (l : Launch) (g : gG) (t c : Nat → Nat) (sx : Nat → Nat → Nat) (bs bc : Int32) (p1 p2 p3 p4 p5 r0 r1 r2 r3 r4 r5 : Nat → Int32) (i tm : Int32) (hw : Wf r0) (ha1 : Ag r0 r1) (ha2 : Ag r0 r2) (ha3 : Ag r0 r3) (ha4 : Ag r0 r4) (ha5 : Ag r0 r5) : Met l yX6_meetRest (.code yX6_meetRest cX6_meetRest 7 none :: gw) (rmN 10) (va_Pc [.ref (t 0), .int (i), .int (tm), .int (0)] (rwPre g (tW g t (c 0) (fun k => sx k 0) bs bc p1 p2 p3 p4 p5 ++ (yW g (sx 0) r0 ++ (yW g (sx 1) r1 ++ (yW g (sx 2) r2 ++ (yW g (sx 3) r3 ++ (yW g (sx 4) r4 ++ (yW g (sx 5) r5 ++ []))))))))) (rxQv g (tW g t (c 0) (fun k => sx k 0) bs bc p1 p2 p3 p4 p5 ++ (yW g (sx 0) r0 ++ (yW g (sx 1) r1 ++ (yW g (sx 2) r2 ++ (yW g (sx 3) r3 ++ (yW g (sx 4) r4 ++ (yW g (sx 5) r5 ++ []))))))) (fun u9 : ({z : Nat → Int32 // Ag r0 z}) × ({z : Nat → Int32 // Ag r0 z}) × ({z : Nat → Int32 // Ag r0 z}) × ({z : Nat → Int32 // Ag r0 z}) × ({z : Nat → Int32 // Ag r0 z}) => tW g t (c 0) (fun k => sx k 0) (mtF i 5 0 r0 tm (bs, bc, p1, p2)).1 (mtF i 5 0 r0 tm (bs, bc, p1, p2)).2.1 (mtF i 5 0 r0 tm (bs, bc, p1, p2)).2.2.1 (mtF i 5 0 r0 tm (bs, bc, p1, p2)).2.2.2 p3 p4 p5 ++ (yW g (sx 0) r0 ++ (yW g (sx 1) u9.1.1 ++ (yW g (sx 2) u9.2.1.1 ++ (yW g (sx 3) u9.2.2.1.1 ++ (yW g (sx 4) u9.2.2.2.1.1 ++ (yW g (sx 5) u9.2.2.2.2.1 ++ [])))))))) 0 0 (dm (tW g t (c 0) (fun k => sx k 0) bs bc p1 p2 p3 p4 p5 ++ (yW g (sx 0) r0 ++ (yW g (sx 1) r1 ++ (yW g (sx 2) r2 ++ (yW g (sx 3) r3 ++ (yW g (sx 4) r4 ++ (yW g (sx 5) r5 ++ [])))))))) := by
  refine met_start (by decide) (Nat.le_of_ble_eq_true rfl) ?_
  intro pp ee ss mm bl mt cd hC hpre ls hl
  obtain ⟨⟨hx, hb, hml, hown, hts⟩, hr, hlk, hnm⟩ := id hC
  have hl : lv_has ls 7 [(0, .ref (t 0)), (1, .int (i)), (2, .int (tm)), (3, .int (0))] := hl
  obtain ⟨hP, hK, hD⟩ := hpre
  have hS : va_S (dm (tW g t (c 0) (fun k => sx k 0) bs bc p1 p2 p3 p4 p5 ++ (yW g (sx 0) r0 ++ (yW g (sx 1) r1 ++ (yW g (sx 2) r2 ++ (yW g (sx 3) r3 ++ (yW g (sx 4) r4 ++ (yW g (sx 5) r5 ++ [])))))))) ss.heap ss.heap [] := va_S.rf
  have hD := vD_self hD
  refine lv_iload_n hx hb dX6_meetRest_0 rfl (lv_at hl 3 rfl) ?_
  refine lv_iconst (v := 0) hx hb dX6_meetRest_1 rfl ?_
  refine lv_iconst (v := 5) hx hb dX6_meetRest_2 rfl ?_
  refine ro_i (run_SN (As := [.int (0), .int (0), .int (5)]) (rest := []) hC.1 ckX8_within (kX8_within l 0 0 5) (hK.2.2 _ _ _ _ m_690) (fb_nil _) (fun _ _ _ => trivial) ⟨rfl, rfl, Nat.le_of_ble_eq_true rfl, Nat.le_of_ble_eq_true rfl⟩ rfl hl.1 rfl (Nat.le_of_ble_eq_true rfl) dX6_meetRest_3 ⟨Nat.le_of_ble_eq_true rfl, Nat.le_of_ble_eq_true rfl⟩) ?_
  refine lv_if_ne (tgt := 10) hx hb dX6_meetRest_6 (by decide) (fun c1 => ?_) (fun c1 => ?_)
  · skip
    have c1 := b2i_1 c1
    refine lv_aload_n hx hb dX6_meetRest_10 rfl (lv_at hl 0 rfl) ?_
    refine kget hC.1 hK (kP_app.mp hP).1 0 rfl rfl in_6 3 (by decide) (gw_in m_247 rfl) rfl dX6_meetRest_11 ?_
    refine lv_iload_n hx hb dX6_meetRest_14 rfl (lv_at hl 3 rfl) ?_
    refine kaldq (v := .ref ((sx 0) 0)) 3 hC.1 hK (kP_app.mp hP).1 1 rfl rfl (show vp_in (nI 0) 6 from vp_in_nI (by omega) (by omega)) rfl dX6_meetRest_15 ?_
    refine lv_astore (lv' := [(4, .ref ((sx 0) 0)), (0, .ref (t 0)), (1, .int (i)), (2, .int (tm)), (3, .int (0))]) hx hb dX6_meetRest_16 hl (by decide) rfl (fun ls hl => ?_)
    refine lv_aload hx hb dX6_meetRest_18 (lv_at hl 0 rfl) ?_
    refine lv_ifnonnull (tgt := 24) hx hb dX6_meetRest_20 (by decide) ?_
    refine lv_iload_n hx hb dX6_meetRest_24 rfl (lv_at hl 3 rfl) ?_
    refine lv_if_ne (tgt := 47) hx hb dX6_meetRest_25 (by decide) (fun c2 => ?_) (fun c2 => ?_)
    · skip
      have htm := c2
      refine lv_iload_n hx hb dX6_meetRest_47 rfl (lv_at hl 4 rfl) ?_
      refine lv_iconst (v := 1) hx hb dX6_meetRest_48 rfl ?_
      refine lv_iadd hx hb dX6_meetRest_49 ?_
      refine top_i (x := 0 + 1) (y := 1) (by decide) ?_
      refine lv_bipush (v := 6) hx hb dX6_meetRest_50 rfl ?_
      refine lv_icmp_ge (tgt := 66) hx hb dX6_meetRest_52 (by decide) (fun c3 => ?_) (fun c3 => ?_)
      · skip
        exact absurd c3 (by decide)
      · skip
        refine lv_aload_n hx hb dX6_meetRest_55 rfl (lv_at hl 1 rfl) ?_
        refine kget hC.1 hK (kP_app.mp hP).1 0 rfl rfl in_6 3 (by decide) (gw_in m_247 rfl) rfl dX6_meetRest_56 ?_
        refine lv_iload_n hx hb dX6_meetRest_59 rfl (lv_at hl 4 rfl) ?_
        refine lv_iconst (v := 1) hx hb dX6_meetRest_60 rfl ?_
        refine lv_iadd hx hb dX6_meetRest_61 ?_
        refine top_i (x := 0 + 1) (y := 1) (by decide) ?_
        refine kaldq (v := .ref ((sx 1) 0)) 3 hC.1 hK (kP_app.mp hP).1 1 rfl rfl (show vp_in (nI 1) 6 from vp_in_nI (by omega) (by omega)) rfl dX6_meetRest_62 ?_
        refine lv_goto (tgt := 67) hx hb dX6_meetRest_63 (by decide) ?_
        refine lv_astore (lv' := [(5, .ref ((sx 1) 0)), (4, .ref ((sx 0) 0)), (0, .ref (t 0)), (1, .int (i)), (2, .int (tm)), (3, .int (0))]) hx hb dX6_meetRest_67 hl (by decide) rfl (fun ls hl => ?_)
        refine lv_aload hx hb dX6_meetRest_69 (lv_at hl 0 rfl) ?_
        refine lv_ifnonnull (tgt := 75) hx hb dX6_meetRest_71 (by decide) ?_
        refine lv_iconst (v := 0) hx hb dX6_meetRest_75 rfl ?_
        refine lv_istore (lv' := [(6, .int (0)), (5, .ref ((sx 1) 0)), (4, .ref ((sx 0) 0)), (0, .ref (t 0)), (1, .int (i)), (2, .int (tm)), (3, .int (0))]) hx hb dX6_meetRest_76 hl (by decide) rfl (fun ls hl => ?_)
        have cut78 : ∀ kk : Nat, ∀ (n : Nat) (y1 : {z : Nat → Int32 // Ag r0 z}) (y2 : {z : Nat → Int32 // Ag r0 z}) (y3 : {z : Nat → Int32 // Ag r0 z}) (y4 : {z : Nat → Int32 // Ag r0 z}) (y5 : {z : Nat → Int32 // Ag r0 z}), 7 - n < kk → (hn : n ≤ 6) → ∀ (H : Heap) (locs : List Loc), kP g (tW g t (c 0) (fun k => sx k 0) (fld (mtS i 4 0 r0 tm) n (bs, bc, p1, p2)).1 (fld (mtS i 4 0 r0 tm) n (bs, bc, p1, p2)).2.1 (fld (mtS i 4 0 r0 tm) n (bs, bc, p1, p2)).2.2.1 (fld (mtS i 4 0 r0 tm) n (bs, bc, p1, p2)).2.2.2 p3 p4 p5 ++ (yW g (sx 0) r0 ++ (yW g (sx 1) y1.1 ++ (yW g (sx 2) y2.1 ++ (yW g (sx 3) y3.1 ++ (yW g (sx 4) y4.1 ++ (yW g (sx 5) y5.1 ++ []))))))) H → va_D (dm (tW g t (c 0) (fun k => sx k 0) bs bc p1 p2 p3 p4 p5 ++ (yW g (sx 0) r0 ++ (yW g (sx 1) r1 ++ (yW g (sx 2) r2 ++ (yW g (sx 3) r3 ++ (yW g (sx 4) r4 ++ (yW g (sx 5) r5 ++ [])))))))) (tW g t (c 0) (fun k => sx k 0) (fld (mtS i 4 0 r0 tm) n (bs, bc, p1, p2)).1 (fld (mtS i 4 0 r0 tm) n (bs, bc, p1, p2)).2.1 (fld (mtS i 4 0 r0 tm) n (bs, bc, p1, p2)).2.2.1 (fld (mtS i 4 0 r0 tm) n (bs, bc, p1, p2)).2.2.2 p3 p4 p5 ++ (yW g (sx 0) r0 ++ (yW g (sx 1) y1.1 ++ (yW g (sx 2) y2.1 ++ (yW g (sx 3) y3.1 ++ (yW g (sx 4) y4.1 ++ (yW g (sx 5) y5.1 ++ []))))))) → va_S (dm (tW g t (c 0) (fun k => sx k 0) bs bc p1 p2 p3 p4 p5 ++ (yW g (sx 0) r0 ++ (yW g (sx 1) r1 ++ (yW g (sx 2) r2 ++ (yW g (sx 3) r3 ++ (yW g (sx 4) r4 ++ (yW g (sx 5) r5 ++ [])))))))) ss.heap H locs → ∀ (ls : Array Slot), lv_has ls 7 [(0, .ref (t 0)), (1, .int (i)), (2, .int (tm)), (3, .int (0)), (4, .ref ((sx 0) 0)), (5, .ref ((sx 1) 0)), (6, .int (nI n))] → W pp l ee (rmN 10) ss mm ([.ref (t 0), .int (i), .int (tm), .int (0)] : List Value).toArray bl mt cd H locs 0 0 (MQ bl (rxQv g (tW g t (c 0) (fun k => sx k 0) bs bc p1 p2 p3 p4 p5 ++ (yW g (sx 0) r0 ++ (yW g (sx 1) r1 ++ (yW g (sx 2) r2 ++ (yW g (sx 3) r3 ++ (yW g (sx 4) r4 ++ (yW g (sx 5) r5 ++ []))))))) (fun u9 : ({z : Nat → Int32 // Ag r0 z}) × ({z : Nat → Int32 // Ag r0 z}) × ({z : Nat → Int32 // Ag r0 z}) × ({z : Nat → Int32 // Ag r0 z}) × ({z : Nat → Int32 // Ag r0 z}) => tW g t (c 0) (fun k => sx k 0) (mtF i 5 0 r0 tm (bs, bc, p1, p2)).1 (mtF i 5 0 r0 tm (bs, bc, p1, p2)).2.1 (mtF i 5 0 r0 tm (bs, bc, p1, p2)).2.2.1 (mtF i 5 0 r0 tm (bs, bc, p1, p2)).2.2.2 p3 p4 p5 ++ (yW g (sx 0) r0 ++ (yW g (sx 1) u9.1.1 ++ (yW g (sx 2) u9.2.1.1 ++ (yW g (sx 3) u9.2.2.1.1 ++ (yW g (sx 4) u9.2.2.2.1.1 ++ (yW g (sx 5) u9.2.2.2.2.1 ++ [])))))))) ([.ref (t 0), .int (i), .int (tm), .int (0)] : List Value).toArray ss 0 0 (dm (tW g t (c 0) (fun k => sx k 0) bs bc p1 p2 p3 p4 p5 ++ (yW g (sx 0) r0 ++ (yW g (sx 1) r1 ++ (yW g (sx 2) r2 ++ (yW g (sx 3) r3 ++ (yW g (sx 4) r4 ++ (yW g (sx 5) r5 ++ []))))))))) (F0 mm 78 ls []) := by
          intro kk
          induction kk with
          | zero => intro n y1 y2 y3 y4 y5 hmu; exact absurd hmu (Nat.not_lt_zero _)
          | succ kk ih78 =>
            intro n y1 y2 y3 y4 y5 hmu hn H locs hP hD hS ls hl
            refine lv_iload hx hb dX6_meetRest_78 (lv_at hl 6 rfl) ?_
            refine lv_bipush (v := 6) hx hb dX6_meetRest_80 rfl ?_
            refine lv_icmp_ge (tgt := 144) hx hb dX6_meetRest_82 (by decide) (fun c4 => ?_) (fun c4 => ?_)
            · skip
              have c4' := Int32.not_lt.mpr c4
              have hn9 : n = 6 := by have := lp_ge (by omega) c4; rw [show (6 : Int32).toInt = 6 from rfl] at this; omega
              subst hn9
              exact ret_rxv (S := ({z : Nat → Int32 // Ag r0 z}) × ({z : Nat → Int32 // Ag r0 z}) × ({z : Nat → Int32 // Ag r0 z}) × ({z : Nat → Int32 // Ag r0 z}) × ({z : Nat → Int32 // Ag r0 z})) (y1, y2, y3, y4, y5) hx hb hr hlk (kP_eq (by rw [show mtF i 5 0 r0 tm (bs, bc, p1, p2) = fld (mtS i 4 0 r0 tm) 6 (bs, bc, p1, p2) from mtF_s (d := 4) htm]) hP) hS dX6_meetRest_144
            · skip
              have c4' := Int32.not_le.mp c4
              have hn9 : n < 6 := by have := lp_lt (by omega) c4; rw [show (6 : Int32).toInt = 6 from rfl] at this; omega
              refine lv_iload_n hx hb dX6_meetRest_85 rfl (lv_at hl 2 rfl) ?_
              refine lv_iload hx hb dX6_meetRest_86 (lv_at hl 6 rfl) ?_
              refine ro_i (run_SN (As := [.int (tm), .int (nI n)]) (rest := []) hC.1 ckX8_has (kX8_has l tm (nI n)) (hK.2.2 _ _ _ _ m_697) (fb_nil _) (fun _ _ _ => trivial) ⟨rfl, rfl, Nat.le_of_ble_eq_true rfl, Nat.le_of_ble_eq_true rfl⟩ rfl hl.1 rfl (Nat.le_of_ble_eq_true rfl) dX6_meetRest_88 ⟨Nat.le_of_ble_eq_true rfl, Nat.le_of_ble_eq_true rfl⟩) ?_
              refine lv_if_ne (tgt := 97) hx hb dX6_meetRest_91 (by decide) (fun c5 => ?_) (fun c5 => ?_)
              · skip
                have c5 := b2i_1 c5
                refine lv_aload_n hx hb dX6_meetRest_97 rfl (lv_at hl 0 rfl) ?_
                refine kget hC.1 hK (kP_app.mp hP).1 0 rfl rfl in_6 4 (by decide) (gw_in m_248 rfl) rfl dX6_meetRest_98 ?_
                refine lv_iload_n hx hb dX6_meetRest_101 rfl (lv_at hl 3 rfl) ?_
                refine lv_iload hx hb dX6_meetRest_102 (lv_at hl 6 rfl) ?_
                refine kast (B' := tW g t (c 0) (fun k => sx k 0) (fld (mtS i 4 0 r0 tm) n (bs, bc, p1, p2)).1 (fld (mtS i 4 0 r0 tm) n (bs, bc, p1, p2)).2.1 (upd (fld (mtS i 4 0 r0 tm) n (bs, bc, p1, p2)).2.2.1 0 (nI n)) (fld (mtS i 4 0 r0 tm) n (bs, bc, p1, p2)).2.2.2 p3 p4 p5) hC.1 hK hP hD hS 2 rfl (show vp_in (nI 0) 6 from vp_in_nI (by omega) (by omega)) (fun _ h => by rw [show cl 0 = 0 from by decide] at h; exact h) tW_adr dX6_meetRest_104 (fun H locs hP hD hS => ?_)
                refine lv_aload hx hb dX6_meetRest_105 (lv_at hl 5 rfl) ?_
                refine lv_aload hx hb dX6_meetRest_107 (lv_at hl 4 rfl) ?_
                have hP : kP g (yW g (sx 1) y1.1 ++ (yW g (sx 0) r0 ++ (tW g t (c 0) (fun k => sx k 0) (fld (mtS i 4 0 r0 tm) n (bs, bc, p1, p2)).1 (fld (mtS i 4 0 r0 tm) n (bs, bc, p1, p2)).2.1 (upd (fld (mtS i 4 0 r0 tm) n (bs, bc, p1, p2)).2.2.1 0 (nI n)) (fld (mtS i 4 0 r0 tm) n (bs, bc, p1, p2)).2.2.2 p3 p4 p5 ++ (yW g (sx 2) y2.1 ++ (yW g (sx 3) y3.1 ++ (yW g (sx 4) y4.1 ++ (yW g (sx 5) y5.1 ++ []))))))) _ := kP_perm (((pmA _ (pm_swap _ _ _)).trans (pm_swap _ _ _)).trans (pmA _ (pm_swap _ _ _))) hP
                have hD : va_D _ (yW g (sx 1) y1.1 ++ (yW g (sx 0) r0 ++ (tW g t (c 0) (fun k => sx k 0) (fld (mtS i 4 0 r0 tm) n (bs, bc, p1, p2)).1 (fld (mtS i 4 0 r0 tm) n (bs, bc, p1, p2)).2.1 (upd (fld (mtS i 4 0 r0 tm) n (bs, bc, p1, p2)).2.2.1 0 (nI n)) (fld (mtS i 4 0 r0 tm) n (bs, bc, p1, p2)).2.2.2 p3 p4 p5 ++ (yW g (sx 2) y2.1 ++ (yW g (sx 3) y3.1 ++ (yW g (sx 4) y4.1 ++ (yW g (sx 5) y5.1 ++ []))))))) := vD_perm (((pmA _ (pm_swap _ _ _)).trans (pm_swap _ _ _)).trans (pmA _ (pm_swap _ _ _))) hD
                refine rw_v (run_V (As := [.ref ((sx 0) 0)]) (rest := []) hC.1 ckX7_copyChangesOf (kX7_copyChangesOf l g (sx 1) (sx 0) y1.1 r0) (gw_in m_700 rfl) (fb_rw _ _ _) (va_recv hK.1 (kP_app.mp hP).1 (q0 := 0) rfl rfl) (fun U hU hW => ⟨by rw [hU]; exact (kP_app.mpr ⟨(kP_app.mp hP).1, (kP_app.mpr ⟨(kP_app.mp (kP_app.mp hP).2).1, kP_nil⟩)⟩), kK_warm hW hK, vD_sub (sbA _ (sbA _ (sb0 _))) hD⟩) ⟨rfl, rfl, Nat.le_of_ble_eq_true rfl, Nat.le_of_ble_eq_true rfl⟩ rfl hl.1 rfl (Nat.le_of_ble_eq_true rfl) dX6_meetRest_109 ⟨Nat.le_of_ble_eq_true rfl, Nat.le_of_ble_eq_true rfl⟩) (adr_app yW_adr (adr_app rfl rfl)) (asc2 _ _ _) (ww' := yW g (sx 1) (chg y1.1 r0) ++ (yW g (sx 0) r0 ++ (tW g t (c 0) (fun k => sx k 0) (fld (mtS i 4 0 r0 tm) n (bs, bc, p1, p2)).1 (fld (mtS i 4 0 r0 tm) n (bs, bc, p1, p2)).2.1 (upd (fld (mtS i 4 0 r0 tm) n (bs, bc, p1, p2)).2.2.1 0 (nI n)) (fld (mtS i 4 0 r0 tm) n (bs, bc, p1, p2)).2.2.2 p3 p4 p5 ++ (yW g (sx 2) y2.1 ++ (yW g (sx 3) y3.1 ++ (yW g (sx 4) y4.1 ++ (yW g (sx 5) y5.1 ++ []))))))) (asc2 _ _ _) hP hD hS (fun H locs hP hD hS => ?_)
                rw [show (chg y1.1 r0) = r0 from chg_ag y1.2] at hP hD
                refine lv_aload hx hb dX6_meetRest_112 (lv_at hl 5 rfl) ?_
                refine lv_iload_n hx hb dX6_meetRest_114 rfl (lv_at hl 1 rfl) ?_
                refine lv_iload hx hb dX6_meetRest_115 (lv_at hl 6 rfl) ?_
                refine lv_iconst (v := 1) hx hb dX6_meetRest_117 rfl ?_
                refine rw_i (run_S (As := [.ref ((sx 1) 0), .int (i), .int (nI n), .int (1)]) (rest := []) hC.1 ckX6_fight (kX6_fight l g (sx 1) r0 i (nI n) true hw) (gw_in m_648 rfl) (fb_rw _ _ _) (fun U hU hW => ⟨by rw [hU]; exact (kP_app.mpr ⟨(kP_app.mp hP).1, kP_nil⟩), kK_warm hW hK, vD_sub (sbA _ (sb0 _)) hD⟩) ⟨rfl, rfl, Nat.le_of_ble_eq_true rfl, Nat.le_of_ble_eq_true rfl⟩ rfl hl.1 rfl (Nat.le_of_ble_eq_true rfl) dX6_meetRest_118 ⟨Nat.le_of_ble_eq_true rfl, Nat.le_of_ble_eq_true rfl⟩) (adr_app yW_adr rfl) (asc1 _ _) (ww' := yW g (sx 1) (fgt true i (nI n) 60 0 r0).2 ++ (yW g (sx 0) r0 ++ (tW g t (c 0) (fun k => sx k 0) (fld (mtS i 4 0 r0 tm) n (bs, bc, p1, p2)).1 (fld (mtS i 4 0 r0 tm) n (bs, bc, p1, p2)).2.1 (upd (fld (mtS i 4 0 r0 tm) n (bs, bc, p1, p2)).2.2.1 0 (nI n)) (fld (mtS i 4 0 r0 tm) n (bs, bc, p1, p2)).2.2.2 p3 p4 p5 ++ (yW g (sx 2) y2.1 ++ (yW g (sx 3) y3.1 ++ (yW g (sx 4) y4.1 ++ (yW g (sx 5) y5.1 ++ []))))))) (asc1 _ _) hP hD hS (fun H locs hP hD hS => ?_)
                refine lv_pop hx hb dX6_meetRest_121 rfl ?_
                refine lv_aload_n hx hb dX6_meetRest_122 rfl (lv_at hl 0 rfl) ?_
                refine lv_iload_n hx hb dX6_meetRest_123 rfl (lv_at hl 1 rfl) ?_
                refine lv_iload_n hx hb dX6_meetRest_124 rfl (lv_at hl 2 rfl) ?_
                refine lv_iconst (v := 1) hx hb dX6_meetRest_125 rfl ?_
                refine lv_iload hx hb dX6_meetRest_126 (lv_at hl 6 rfl) ?_
                refine lv_ishl hx hb dX6_meetRest_128 ?_
                refine top_i (x := 1 <<< ((nI n) &&& 31)) (y := (1 : Int32) <<< (nI n &&& 31)) rfl ?_
                refine lv_iconst (v := -1) hx hb dX6_meetRest_129 rfl ?_
                refine lv_ixor hx hb dX6_meetRest_130 ?_
                refine lv_iand hx hb dX6_meetRest_131 ?_
                refine lv_iload_n hx hb dX6_meetRest_132 rfl (lv_at hl 3 rfl) ?_
                refine lv_iconst (v := 1) hx hb dX6_meetRest_133 rfl ?_
                refine lv_iadd hx hb dX6_meetRest_134 ?_
                refine top_i (x := 0 + 1) (y := 1) (by decide) ?_
                have hP : kP g (tW g t (c 0) (fun k => sx k 0) (fld (mtS i 4 0 r0 tm) n (bs, bc, p1, p2)).1 (fld (mtS i 4 0 r0 tm) n (bs, bc, p1, p2)).2.1 (upd (fld (mtS i 4 0 r0 tm) n (bs, bc, p1, p2)).2.2.1 0 (nI n)) (fld (mtS i 4 0 r0 tm) n (bs, bc, p1, p2)).2.2.2 p3 p4 p5 ++ (yW g (sx 1) (fgt true i (nI n) 60 0 r0).2 ++ (yW g (sx 2) y2.1 ++ (yW g (sx 3) y3.1 ++ (yW g (sx 4) y4.1 ++ (yW g (sx 5) y5.1 ++ (yW g (sx 0) r0 ++ []))))))) _ := kP_perm ((((((pmA _ (pm_swap _ _ _)).trans (pm_swap _ _ _)).trans (pmA _ (pmA _ (pm_swap _ _ _)))).trans (pmA _ (pmA _ (pmA _ (pm_swap _ _ _))))).trans (pmA _ (pmA _ (pmA _ (pmA _ (pm_swap _ _ _)))))).trans (pmA _ (pmA _ (pmA _ (pmA _ (pmA _ (pm_swap _ _ _))))))) hP
                have hD : va_D _ (tW g t (c 0) (fun k => sx k 0) (fld (mtS i 4 0 r0 tm) n (bs, bc, p1, p2)).1 (fld (mtS i 4 0 r0 tm) n (bs, bc, p1, p2)).2.1 (upd (fld (mtS i 4 0 r0 tm) n (bs, bc, p1, p2)).2.2.1 0 (nI n)) (fld (mtS i 4 0 r0 tm) n (bs, bc, p1, p2)).2.2.2 p3 p4 p5 ++ (yW g (sx 1) (fgt true i (nI n) 60 0 r0).2 ++ (yW g (sx 2) y2.1 ++ (yW g (sx 3) y3.1 ++ (yW g (sx 4) y4.1 ++ (yW g (sx 5) y5.1 ++ (yW g (sx 0) r0 ++ []))))))) := vD_perm ((((((pmA _ (pm_swap _ _ _)).trans (pm_swap _ _ _)).trans (pmA _ (pmA _ (pm_swap _ _ _)))).trans (pmA _ (pmA _ (pmA _ (pm_swap _ _ _))))).trans (pmA _ (pmA _ (pmA _ (pmA _ (pm_swap _ _ _)))))).trans (pmA _ (pmA _ (pmA _ (pmA _ (pmA _ (pm_swap _ _ _))))))) hD
                refine rx_v (run_V (rm := rmN 9) (As := [.int (i), .int (tm &&& (((1 : Int32) <<< (nI n &&& 31)) ^^^ (-1))), .int (1)]) (rest := []) hC.1 ckX6_meetRest (kX6_meetRest_1 l g t c sx (fld (mtS i 4 0 r0 tm) n (bs, bc, p1, p2)).1 (fld (mtS i 4 0 r0 tm) n (bs, bc, p1, p2)).2.1 (upd (fld (mtS i 4 0 r0 tm) n (bs, bc, p1, p2)).2.2.1 0 (nI n)) (fld (mtS i 4 0 r0 tm) n (bs, bc, p1, p2)).2.2.2 p3 p4 p5 (fgt true i (nI n) 60 0 r0).2 y2.1 y3.1 y4.1 y5.1 i (tm &&& (((1 : Int32) <<< (nI n &&& 31)) ^^^ (-1))) (Wf_fgt hw) (Ag_tr2 Ag_fgt y2.2) (Ag_tr2 Ag_fgt y3.2) (Ag_tr2 Ag_fgt y4.2) (Ag_tr2 Ag_fgt y5.2)) (gw_in m_686 rfl) (fb_rw _ _ _) (va_recv hK.1 (kP_app.mp hP).1 (q0 := 0) rfl rfl) (fun U hU hW => ⟨by rw [hU]; exact (kP_app.mpr ⟨(kP_app.mp hP).1, (kP_app.mpr ⟨(kP_app.mp (kP_app.mp hP).2).1, (kP_app.mpr ⟨(kP_app.mp (kP_app.mp (kP_app.mp hP).2).2).1, (kP_app.mpr ⟨(kP_app.mp (kP_app.mp (kP_app.mp (kP_app.mp hP).2).2).2).1, (kP_app.mpr ⟨(kP_app.mp (kP_app.mp (kP_app.mp (kP_app.mp (kP_app.mp hP).2).2).2).2).1, (kP_app.mpr ⟨(kP_app.mp (kP_app.mp (kP_app.mp (kP_app.mp (kP_app.mp (kP_app.mp hP).2).2).2).2).2).1, kP_nil⟩)⟩)⟩)⟩)⟩)⟩), kK_warm hW hK, vD_sub (sbA _ (sbA _ (sbA _ (sbA _ (sbA _ (sbA _ (sb0 _))))))) hD⟩) ⟨rfl, rfl, Nat.le_of_ble_eq_true rfl, Nat.le_of_ble_eq_true rfl⟩ rfl hl.1 rfl (Nat.le_of_ble_eq_true rfl) dX6_meetRest_135 ⟨Nat.le_of_ble_eq_true rfl, Nat.le_of_ble_eq_true rfl⟩) (fun u => (adr_app tW_adr (adr_app rfl (adr_app yW_adr (adr_app yW_adr (adr_app yW_adr (adr_app yW_adr rfl))))))) (asc6 _ _ _ _ _ _ _) (ww' := fun u9 : ({z : Nat → Int32 // Ag (fgt true i (nI n) 60 0 r0).2 z}) × ({z : Nat → Int32 // Ag (fgt true i (nI n) 60 0 r0).2 z}) × ({z : Nat → Int32 // Ag (fgt true i (nI n) 60 0 r0).2 z}) × ({z : Nat → Int32 // Ag (fgt true i (nI n) 60 0 r0).2 z}) => tW g t (c 0) (fun k => sx k 0) (mtF i 4 1 (fgt true i (nI n) 60 0 r0).2 (tm &&& (((1 : Int32) <<< (nI n &&& 31)) ^^^ (-1))) ((fld (mtS i 4 0 r0 tm) n (bs, bc, p1, p2)).1, (fld (mtS i 4 0 r0 tm) n (bs, bc, p1, p2)).2.1, (upd (fld (mtS i 4 0 r0 tm) n (bs, bc, p1, p2)).2.2.1 0 (nI n)), (fld (mtS i 4 0 r0 tm) n (bs, bc, p1, p2)).2.2.2)).1 (mtF i 4 1 (fgt true i (nI n) 60 0 r0).2 (tm &&& (((1 : Int32) <<< (nI n &&& 31)) ^^^ (-1))) ((fld (mtS i 4 0 r0 tm) n (bs, bc, p1, p2)).1, (fld (mtS i 4 0 r0 tm) n (bs, bc, p1, p2)).2.1, (upd (fld (mtS i 4 0 r0 tm) n (bs, bc, p1, p2)).2.2.1 0 (nI n)), (fld (mtS i 4 0 r0 tm) n (bs, bc, p1, p2)).2.2.2)).2.1 (mtF i 4 1 (fgt true i (nI n) 60 0 r0).2 (tm &&& (((1 : Int32) <<< (nI n &&& 31)) ^^^ (-1))) ((fld (mtS i 4 0 r0 tm) n (bs, bc, p1, p2)).1, (fld (mtS i 4 0 r0 tm) n (bs, bc, p1, p2)).2.1, (upd (fld (mtS i 4 0 r0 tm) n (bs, bc, p1, p2)).2.2.1 0 (nI n)), (fld (mtS i 4 0 r0 tm) n (bs, bc, p1, p2)).2.2.2)).2.2.1 (mtF i 4 1 (fgt true i (nI n) 60 0 r0).2 (tm &&& (((1 : Int32) <<< (nI n &&& 31)) ^^^ (-1))) ((fld (mtS i 4 0 r0 tm) n (bs, bc, p1, p2)).1, (fld (mtS i 4 0 r0 tm) n (bs, bc, p1, p2)).2.1, (upd (fld (mtS i 4 0 r0 tm) n (bs, bc, p1, p2)).2.2.1 0 (nI n)), (fld (mtS i 4 0 r0 tm) n (bs, bc, p1, p2)).2.2.2)).2.2.2 p3 p4 p5 ++ (yW g (sx 1) (fgt true i (nI n) 60 0 r0).2 ++ (yW g (sx 2) u9.1.1 ++ (yW g (sx 3) u9.2.1.1 ++ (yW g (sx 4) u9.2.2.1.1 ++ (yW g (sx 5) u9.2.2.2.1 ++ (yW g (sx 0) r0 ++ []))))))) (fun u => asc6 _ _ _ _ _ _ _) hP hD hS (fun u H locs hP hD hS => ?_)
                obtain ⟨x6, x7, x8, x9⟩ := u
                have hP : kP g (tW g t (c 0) (fun k => sx k 0) (mtF i 4 1 (fgt true i (nI n) 60 0 r0).2 (tm &&& (((1 : Int32) <<< (nI n &&& 31)) ^^^ (-1))) ((fld (mtS i 4 0 r0 tm) n (bs, bc, p1, p2)).1, (fld (mtS i 4 0 r0 tm) n (bs, bc, p1, p2)).2.1, (upd (fld (mtS i 4 0 r0 tm) n (bs, bc, p1, p2)).2.2.1 0 (nI n)), (fld (mtS i 4 0 r0 tm) n (bs, bc, p1, p2)).2.2.2)).1 (mtF i 4 1 (fgt true i (nI n) 60 0 r0).2 (tm &&& (((1 : Int32) <<< (nI n &&& 31)) ^^^ (-1))) ((fld (mtS i 4 0 r0 tm) n (bs, bc, p1, p2)).1, (fld (mtS i 4 0 r0 tm) n (bs, bc, p1, p2)).2.1, (upd (fld (mtS i 4 0 r0 tm) n (bs, bc, p1, p2)).2.2.1 0 (nI n)), (fld (mtS i 4 0 r0 tm) n (bs, bc, p1, p2)).2.2.2)).2.1 (mtF i 4 1 (fgt true i (nI n) 60 0 r0).2 (tm &&& (((1 : Int32) <<< (nI n &&& 31)) ^^^ (-1))) ((fld (mtS i 4 0 r0 tm) n (bs, bc, p1, p2)).1, (fld (mtS i 4 0 r0 tm) n (bs, bc, p1, p2)).2.1, (upd (fld (mtS i 4 0 r0 tm) n (bs, bc, p1, p2)).2.2.1 0 (nI n)), (fld (mtS i 4 0 r0 tm) n (bs, bc, p1, p2)).2.2.2)).2.2.1 (mtF i 4 1 (fgt true i (nI n) 60 0 r0).2 (tm &&& (((1 : Int32) <<< (nI n &&& 31)) ^^^ (-1))) ((fld (mtS i 4 0 r0 tm) n (bs, bc, p1, p2)).1, (fld (mtS i 4 0 r0 tm) n (bs, bc, p1, p2)).2.1, (upd (fld (mtS i 4 0 r0 tm) n (bs, bc, p1, p2)).2.2.1 0 (nI n)), (fld (mtS i 4 0 r0 tm) n (bs, bc, p1, p2)).2.2.2)).2.2.2 p3 p4 p5 ++ (yW g (sx 1) (fgt true i (nI n) 60 0 r0).2 ++ (yW g (sx 2) x6.1 ++ (yW g (sx 3) x7.1 ++ (yW g (sx 4) x8.1 ++ (yW g (sx 5) x9.1 ++ (yW g (sx 0) r0 ++ []))))))) H := hP
                have hD : va_D _ (tW g t (c 0) (fun k => sx k 0) (mtF i 4 1 (fgt true i (nI n) 60 0 r0).2 (tm &&& (((1 : Int32) <<< (nI n &&& 31)) ^^^ (-1))) ((fld (mtS i 4 0 r0 tm) n (bs, bc, p1, p2)).1, (fld (mtS i 4 0 r0 tm) n (bs, bc, p1, p2)).2.1, (upd (fld (mtS i 4 0 r0 tm) n (bs, bc, p1, p2)).2.2.1 0 (nI n)), (fld (mtS i 4 0 r0 tm) n (bs, bc, p1, p2)).2.2.2)).1 (mtF i 4 1 (fgt true i (nI n) 60 0 r0).2 (tm &&& (((1 : Int32) <<< (nI n &&& 31)) ^^^ (-1))) ((fld (mtS i 4 0 r0 tm) n (bs, bc, p1, p2)).1, (fld (mtS i 4 0 r0 tm) n (bs, bc, p1, p2)).2.1, (upd (fld (mtS i 4 0 r0 tm) n (bs, bc, p1, p2)).2.2.1 0 (nI n)), (fld (mtS i 4 0 r0 tm) n (bs, bc, p1, p2)).2.2.2)).2.1 (mtF i 4 1 (fgt true i (nI n) 60 0 r0).2 (tm &&& (((1 : Int32) <<< (nI n &&& 31)) ^^^ (-1))) ((fld (mtS i 4 0 r0 tm) n (bs, bc, p1, p2)).1, (fld (mtS i 4 0 r0 tm) n (bs, bc, p1, p2)).2.1, (upd (fld (mtS i 4 0 r0 tm) n (bs, bc, p1, p2)).2.2.1 0 (nI n)), (fld (mtS i 4 0 r0 tm) n (bs, bc, p1, p2)).2.2.2)).2.2.1 (mtF i 4 1 (fgt true i (nI n) 60 0 r0).2 (tm &&& (((1 : Int32) <<< (nI n &&& 31)) ^^^ (-1))) ((fld (mtS i 4 0 r0 tm) n (bs, bc, p1, p2)).1, (fld (mtS i 4 0 r0 tm) n (bs, bc, p1, p2)).2.1, (upd (fld (mtS i 4 0 r0 tm) n (bs, bc, p1, p2)).2.2.1 0 (nI n)), (fld (mtS i 4 0 r0 tm) n (bs, bc, p1, p2)).2.2.2)).2.2.2 p3 p4 p5 ++ (yW g (sx 1) (fgt true i (nI n) 60 0 r0).2 ++ (yW g (sx 2) x6.1 ++ (yW g (sx 3) x7.1 ++ (yW g (sx 4) x8.1 ++ (yW g (sx 5) x9.1 ++ (yW g (sx 0) r0 ++ []))))))) := hD
                refine lv_iinc (v := nI (n + 1)) (lv' := [(6, .int (nI (n + 1))), (0, .ref (t 0)), (1, .int (i)), (2, .int (tm)), (3, .int (0)), (4, .ref ((sx 0) 0)), (5, .ref ((sx 1) 0))]) hx hb dX6_meetRest_138 hl (k := 6) rfl (inc_nI n) (by decide) rfl (fun ls hl => ?_)
                refine lv_goto (tgt := 78) hx hb dX6_meetRest_141 (by decide) ?_
                have e9 : fld (mtS i 4 0 r0 tm) (n + 1) (bs, bc, p1, p2) = mtF i 4 1 (fgt true i (nI n) 60 0 r0).2 (tm &&& ((1 : Int32) <<< (nI n &&& 31) ^^^ (-1))) ((fld (mtS i 4 0 r0 tm) n (bs, bc, p1, p2)).1, (fld (mtS i 4 0 r0 tm) n (bs, bc, p1, p2)).2.1, upd (fld (mtS i 4 0 r0 tm) n (bs, bc, p1, p2)).2.2.1 0 (nI n), (fld (mtS i 4 0 r0 tm) n (bs, bc, p1, p2)).2.2.2) := mtS_t c5
                have hP : kP g (tW g t (c 0) (fun k => sx k 0) (fld (mtS i 4 0 r0 tm) (n + 1) (bs, bc, p1, p2)).1 (fld (mtS i 4 0 r0 tm) (n + 1) (bs, bc, p1, p2)).2.1 (fld (mtS i 4 0 r0 tm) (n + 1) (bs, bc, p1, p2)).2.2.1 (fld (mtS i 4 0 r0 tm) (n + 1) (bs, bc, p1, p2)).2.2.2 p3 p4 p5 ++ (yW g (sx 1) (fgt true i (nI n) 60 0 r0).2 ++ (yW g (sx 2) x6.1 ++ (yW g (sx 3) x7.1 ++ (yW g (sx 4) x8.1 ++ (yW g (sx 5) x9.1 ++ (yW g (sx 0) r0 ++ []))))))) _ := kP_eq (by rw [e9]) hP
                have hD : va_D _ (tW g t (c 0) (fun k => sx k 0) (fld (mtS i 4 0 r0 tm) (n + 1) (bs, bc, p1, p2)).1 (fld (mtS i 4 0 r0 tm) (n + 1) (bs, bc, p1, p2)).2.1 (fld (mtS i 4 0 r0 tm) (n + 1) (bs, bc, p1, p2)).2.2.1 (fld (mtS i 4 0 r0 tm) (n + 1) (bs, bc, p1, p2)).2.2.2 p3 p4 p5 ++ (yW g (sx 1) (fgt true i (nI n) 60 0 r0).2 ++ (yW g (sx 2) x6.1 ++ (yW g (sx 3) x7.1 ++ (yW g (sx 4) x8.1 ++ (yW g (sx 5) x9.1 ++ (yW g (sx 0) r0 ++ []))))))) := vD_eq (by rw [e9]) hD
                have hP : kP g (tW g t (c 0) (fun k => sx k 0) (fld (mtS i 4 0 r0 tm) (n + 1) (bs, bc, p1, p2)).1 (fld (mtS i 4 0 r0 tm) (n + 1) (bs, bc, p1, p2)).2.1 (fld (mtS i 4 0 r0 tm) (n + 1) (bs, bc, p1, p2)).2.2.1 (fld (mtS i 4 0 r0 tm) (n + 1) (bs, bc, p1, p2)).2.2.2 p3 p4 p5 ++ (yW g (sx 0) r0 ++ (yW g (sx 1) (fgt true i (nI n) 60 0 r0).2 ++ (yW g (sx 2) x6.1 ++ (yW g (sx 3) x7.1 ++ (yW g (sx 4) x8.1 ++ (yW g (sx 5) x9.1 ++ []))))))) _ := kP_perm (((((pmA _ (pmA _ (pmA _ (pmA _ (pmA _ (pm_swap _ _ _)))))).trans (pmA _ (pmA _ (pmA _ (pmA _ (pm_swap _ _ _)))))).trans (pmA _ (pmA _ (pmA _ (pm_swap _ _ _))))).trans (pmA _ (pmA _ (pm_swap _ _ _)))).trans (pmA _ (pm_swap _ _ _))) hP
                have hD : va_D _ (tW g t (c 0) (fun k => sx k 0) (fld (mtS i 4 0 r0 tm) (n + 1) (bs, bc, p1, p2)).1 (fld (mtS i 4 0 r0 tm) (n + 1) (bs, bc, p1, p2)).2.1 (fld (mtS i 4 0 r0 tm) (n + 1) (bs, bc, p1, p2)).2.2.1 (fld (mtS i 4 0 r0 tm) (n + 1) (bs, bc, p1, p2)).2.2.2 p3 p4 p5 ++ (yW g (sx 0) r0 ++ (yW g (sx 1) (fgt true i (nI n) 60 0 r0).2 ++ (yW g (sx 2) x6.1 ++ (yW g (sx 3) x7.1 ++ (yW g (sx 4) x8.1 ++ (yW g (sx 5) x9.1 ++ []))))))) := vD_perm (((((pmA _ (pmA _ (pmA _ (pmA _ (pmA _ (pm_swap _ _ _)))))).trans (pmA _ (pmA _ (pmA _ (pmA _ (pm_swap _ _ _)))))).trans (pmA _ (pmA _ (pmA _ (pm_swap _ _ _))))).trans (pmA _ (pmA _ (pm_swap _ _ _)))).trans (pmA _ (pm_swap _ _ _))) hD
                exact ih78 (n + 1) (⟨(fgt true i (nI n) 60 0 r0).2, Ag_fgt⟩) (⟨x6.1, Ag_tr Ag_fgt x6.2⟩) (⟨x7.1, Ag_tr Ag_fgt x7.2⟩) (⟨x8.1, Ag_tr Ag_fgt x8.2⟩) (⟨x9.1, Ag_tr Ag_fgt x9.2⟩) (by omega) (by omega) _ _ hP hD hS _ (lv_sub hl [1, 2, 3, 4, 5, 6, 0] rfl)
              · skip
                have c5 := b2i_0 c5
                refine lv_goto (tgt := 138) hx hb dX6_meetRest_94 (by decide) ?_
                refine lv_iinc (v := nI (n + 1)) (lv' := [(6, .int (nI (n + 1))), (0, .ref (t 0)), (1, .int (i)), (2, .int (tm)), (3, .int (0)), (4, .ref ((sx 0) 0)), (5, .ref ((sx 1) 0))]) hx hb dX6_meetRest_138 hl (k := 6) rfl (inc_nI n) (by decide) rfl (fun ls hl => ?_)
                refine lv_goto (tgt := 78) hx hb dX6_meetRest_141 (by decide) ?_
                have e9 : fld (mtS i 4 0 r0 tm) (n + 1) (bs, bc, p1, p2) = fld (mtS i 4 0 r0 tm) n (bs, bc, p1, p2) := mtS_f c5
                have hP : kP g (tW g t (c 0) (fun k => sx k 0) (fld (mtS i 4 0 r0 tm) (n + 1) (bs, bc, p1, p2)).1 (fld (mtS i 4 0 r0 tm) (n + 1) (bs, bc, p1, p2)).2.1 (fld (mtS i 4 0 r0 tm) (n + 1) (bs, bc, p1, p2)).2.2.1 (fld (mtS i 4 0 r0 tm) (n + 1) (bs, bc, p1, p2)).2.2.2 p3 p4 p5 ++ (yW g (sx 0) r0 ++ (yW g (sx 1) y1.1 ++ (yW g (sx 2) y2.1 ++ (yW g (sx 3) y3.1 ++ (yW g (sx 4) y4.1 ++ (yW g (sx 5) y5.1 ++ []))))))) _ := kP_eq (by rw [e9]) hP
                have hD : va_D _ (tW g t (c 0) (fun k => sx k 0) (fld (mtS i 4 0 r0 tm) (n + 1) (bs, bc, p1, p2)).1 (fld (mtS i 4 0 r0 tm) (n + 1) (bs, bc, p1, p2)).2.1 (fld (mtS i 4 0 r0 tm) (n + 1) (bs, bc, p1, p2)).2.2.1 (fld (mtS i 4 0 r0 tm) (n + 1) (bs, bc, p1, p2)).2.2.2 p3 p4 p5 ++ (yW g (sx 0) r0 ++ (yW g (sx 1) y1.1 ++ (yW g (sx 2) y2.1 ++ (yW g (sx 3) y3.1 ++ (yW g (sx 4) y4.1 ++ (yW g (sx 5) y5.1 ++ []))))))) := vD_eq (by rw [e9]) hD
                exact ih78 (n + 1) y1 y2 y3 y4 y5 (by omega) (by omega) _ _ hP hD hS _ (lv_sub hl [1, 2, 3, 4, 5, 6, 0] rfl)
        exact cut78 _ 0 (⟨r1, ha1⟩) (⟨r2, ha2⟩) (⟨r3, ha3⟩) (⟨r4, ha4⟩) (⟨r5, ha5⟩) (Nat.lt_succ_self _) (by omega) _ _ hP hD hS _ (lv_sub hl [3, 4, 5, 6, 2, 1, 0] rfl)
    · skip
      have htm := c2
      refine lv_aload_n hx hb dX6_meetRest_28 rfl (lv_at hl 1 rfl) ?_
      refine lv_aload hx hb dX6_meetRest_29 (lv_at hl 0 rfl) ?_
      refine lv_iload_n hx hb dX6_meetRest_31 rfl (lv_at hl 2 rfl) ?_
      refine lv_iconst (v := 5) hx hb dX6_meetRest_32 rfl ?_
      refine ro_i (run_V (As := [.int (i), .int (5)]) (rest := [.ref (t 0)]) hC.1 ckX7_fact (kX7_fact l g (sx 0) r0 i 5 hw) (gw_in m_691 rfl) (fb_ro _ _ _) (va_recv hK.1 (kP_app.mp (kP_app.mp hP).2).1 (q0 := 0) rfl rfl) (fun U hU hW => ⟨by rw [hU]; exact (kP_app.mp (kP_app.mp hP).2).1, kK_warm hW hK⟩) ⟨rfl, rfl, Nat.le_of_ble_eq_true rfl, Nat.le_of_ble_eq_true rfl⟩ rfl hl.1 rfl (Nat.le_of_ble_eq_true rfl) dX6_meetRest_33 ⟨Nat.le_of_ble_eq_true rfl, Nat.le_of_ble_eq_true rfl⟩) ?_
      refine lv_aload hx hb dX6_meetRest_36 (lv_at hl 0 rfl) ?_
      refine lv_iload_n hx hb dX6_meetRest_38 rfl (lv_at hl 2 rfl) ?_
      refine lv_iconst (v := 4) hx hb dX6_meetRest_39 rfl ?_
      refine ro_i (run_V (As := [.int (i), .int (4)]) (rest := [.int (yFact r0 i 5), .ref (t 0)]) hC.1 ckX7_fact (kX7_fact l g (sx 0) r0 i 4 hw) (gw_in m_691 rfl) (fb_ro _ _ _) (va_recv hK.1 (kP_app.mp (kP_app.mp hP).2).1 (q0 := 0) rfl rfl) (fun U hU hW => ⟨by rw [hU]; exact (kP_app.mp (kP_app.mp hP).2).1, kK_warm hW hK⟩) ⟨rfl, rfl, Nat.le_of_ble_eq_true rfl, Nat.le_of_ble_eq_true rfl⟩ rfl hl.1 rfl (Nat.le_of_ble_eq_true rfl) dX6_meetRest_40 ⟨Nat.le_of_ble_eq_true rfl, Nat.le_of_ble_eq_true rfl⟩) ?_
      refine rw_v (run_V (As := [.int (yFact r0 i 5), .int (yFact r0 i 4)]) (rest := []) hC.1 ckX6_keepIfBetter (kX6_keepIfBetter l g t c (fun k => sx k 0) bs bc p1 p2 p3 p4 p5 (yFact r0 i 5) (yFact r0 i 4)) (gw_in m_692 rfl) (fb_rw _ _ _) (va_recv hK.1 (kP_app.mp hP).1 (q0 := 0) rfl rfl) (fun U hU hW => ⟨by rw [hU]; exact (kP_app.mpr ⟨(kP_app.mp hP).1, kP_nil⟩), kK_warm hW hK, vD_sub (sbA _ (sb0 _)) hD⟩) ⟨rfl, rfl, Nat.le_of_ble_eq_true rfl, Nat.le_of_ble_eq_true rfl⟩ rfl hl.1 rfl (Nat.le_of_ble_eq_true rfl) dX6_meetRest_43 ⟨Nat.le_of_ble_eq_true rfl, Nat.le_of_ble_eq_true rfl⟩) (adr_app tW_adr rfl) (asc1 _ _) (ww' := tW g t (c 0) (fun k => sx k 0) (if kbB (yFact r0 i 5) (yFact r0 i 4) bs bc = true then (yFact r0 i 5) else bs) (if kbB (yFact r0 i 5) (yFact r0 i 4) bs bc = true then (yFact r0 i 4) else bc) p1 (if kbB (yFact r0 i 5) (yFact r0 i 4) bs bc = true then p1 else p2) p3 p4 p5 ++ (yW g (sx 0) r0 ++ (yW g (sx 1) r1 ++ (yW g (sx 2) r2 ++ (yW g (sx 3) r3 ++ (yW g (sx 4) r4 ++ (yW g (sx 5) r5 ++ []))))))) (asc1 _ _) hP hD hS (fun H locs hP hD hS => ?_)
      exact ret_rxv (S := ({z : Nat → Int32 // Ag r0 z}) × ({z : Nat → Int32 // Ag r0 z}) × ({z : Nat → Int32 // Ag r0 z}) × ({z : Nat → Int32 // Ag r0 z}) × ({z : Nat → Int32 // Ag r0 z})) ((⟨r1, ha1⟩), (⟨r2, ha2⟩), (⟨r3, ha3⟩), (⟨r4, ha4⟩), (⟨r5, ha5⟩)) hx hb hr hlk (kP_eq (by simp only [mtF_0 htm, kbS]) hP) hS dX6_meetRest_46
  · skip
    have c1 := b2i_0 c1
    exact absurd (show wth 0 0 5 = true from by decide) (by rw [c1]; decide)
