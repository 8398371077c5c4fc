theorem ckX9_canSet : ckS yX9_canSet cX9_canSet 4 (some .int) 2 := ⟨(gw_in m_1212 rfl), (gw_in m_71 rfl), (gw_in m_1211 rfl), by decide +kernel, by decide +kernel, by decide +kernel⟩
theorem ckX9_brokenOf : ckS yX9_brokenOf cX9_brokenOf 3 (some .int) 1 := ⟨(gw_in m_1365 rfl), (gw_in m_71 rfl), (gw_in m_1364 rfl), by decide +kernel, by decide +kernel, by decide +kernel⟩
theorem ckX9_begins : ckS yX9_begins cX9_begins 3 none 2 := ⟨(gw_in m_1055 rfl), (gw_in m_71 rfl), (gw_in m_1054 rfl), by decide +kernel, by decide +kernel, by decide +kernel⟩
theorem ckX9_joins : ckS yX9_joins cX9_joins 4 (some .int) 3 := ⟨(gw_in m_1070 rfl), (gw_in m_71 rfl), (gw_in m_1069 rfl), by decide +kernel, by decide +kernel, by decide +kernel⟩
theorem ckX9_comes : ckS yX9_comes cX9_comes 6 (some .int) 5 := ⟨(gw_in m_1077 rfl), (gw_in m_71 rfl), (gw_in m_1076 rfl), by decide +kernel, by decide +kernel, by decide +kernel⟩
theorem ckX9_bits : ckS yX9_bits cX9_bits 3 (some .int) 1 := ⟨(gw_in m_1260 rfl), (gw_in m_71 rfl), (gw_in m_1259 rfl), by decide +kernel, by decide +kernel, by decide +kernel⟩
set_option maxHeartbeats 4000000 in
set_option maxRecDepth 100000 in
theorem kX9_canSet (l : Launch) (g : gG) (a : Nat) (r : Nat → Int32) (i : Int32) (hw : Wf r) : Met l yX9_canSet (.code yX9_canSet cX9_canSet 4 (some .int) :: gw) (rmN 3) (va_Pc [.ref (a), .int (i)] (roPre g (aW g a 45 r))) (vp_Si (fun v => v = (setB (fun j => yCan r i (nI j)) (cl (r 2))))) 0 0 (fun _ => False) := by
  refine met_start (by decide) (Nat.le_of_ble_eq_true rfl) ?_
  intro pp ee ss mm bl mt cd hC hpre ls hl
  obtain ⟨⟨hx, hb, hml, hown, hts⟩, hr, hlk, hnm⟩ := id hC
  have hl : lv_has ls 4 [(0, .ref (a)), (1, .int (i))] := hl
  obtain ⟨hP, hK⟩ := hpre
  refine lv_iconst (v := 0) hx hb dX9_canSet_0 rfl ?_
  refine lv_istore_n (lv' := [(2, .int (0)), (0, .ref (a)), (1, .int (i))]) hx hb dX9_canSet_1 rfl hl (by decide) rfl (fun ls hl => ?_)
  refine lv_iconst (v := 0) hx hb dX9_canSet_2 rfl ?_
  refine lv_istore_n (lv' := [(3, .int (0)), (2, .int (0)), (0, .ref (a)), (1, .int (i))]) hx hb dX9_canSet_3 rfl hl (by decide) rfl (fun ls hl => ?_)
  have cut4 : ∀ kk : Nat, ∀ (n : Nat), 7 - n < kk → (hn : (n : Int) ≤ (r 2).toInt) → ∀ (ls : Array Slot), lv_has ls 4 [(0, .ref (a)), (1, .int (i)), (2, .int (setB (fun j => yCan r i (nI j)) n)), (3, .int (nI n))] → W pp l ee (rmN 3) ss mm ([.ref (a), .int (i)] : List Value).toArray bl mt cd ss.heap [] 0 0 (MQ bl (vp_Si (fun v => v = (setB (fun j => yCan r i (nI j)) (cl (r 2))))) ([.ref (a), .int (i)] : List Value).toArray ss 0 0 (fun _ => False)) (F0 mm 4 ls []) := by
    intro kk
    induction kk with
    | zero => intro n hmu; exact absurd hmu (Nat.not_lt_zero _)
    | succ kk ih4 =>
      intro n hmu hn ls hl
      refine lv_iload_n hx hb dX9_canSet_4 rfl (lv_at hl 3 rfl) ?_
      refine lv_aload_n hx hb dX9_canSet_5 rfl (lv_at hl 0 rfl) ?_
      refine lv_iconst (v := 2) hx hb dX9_canSet_6 rfl ?_
      refine kald (v := r 2) hC.1 hK hP 0 rfl (show vp_in (nI 2) 45 from vp_in_nI (by omega) (by omega)) (congrArg r (show cl 2 = 2 from by decide)) dX9_canSet_7 ?_
      refine lv_icmp_ge (tgt := 36) hx hb dX9_canSet_8 (by decide) (fun c1 => ?_) (fun c1 => ?_)
      · skip
        have c1' := Int32.not_lt.mpr c1
        have hge := lp_ge (by have := hw.n6; omega) c1
        have hend : cl (r 2) = n := by have := cl_ti (i := r 2) hw.2.2.1.1; omega
        refine lv_iload_n hx hb dX9_canSet_36 rfl (lv_at hl 2 rfl) ?_
        exact ret_roi hx hb hr hlk (by rw [hend]) dX9_canSet_37
      · skip
        have c1' := Int32.not_le.mp c1
        have hlt := lp_lt (by have := hw.n6; omega) c1
        have hni := nut_nI hlt
        refine lv_iload_n hx hb dX9_canSet_11 rfl (lv_at hl 2 rfl) ?_
        refine lv_aload_n hx hb dX9_canSet_12 rfl (lv_at hl 0 rfl) ?_
        refine lv_iload_n hx hb dX9_canSet_13 rfl (lv_at hl 1 rfl) ?_
        refine lv_iload_n hx hb dX9_canSet_14 rfl (lv_at hl 3 rfl) ?_
        refine ro_i (run_S (As := [.ref (a), .int (i), .int (nI n)]) (rest := [.int (setB (fun j => yCan r i (nI j)) n)]) hC.1 ckX9_canStrike (kX9_canStrike l g a r i (nI n) hw) (gw_in m_1136 rfl) (fb_ro _ _ _) (fun U hU hW => ⟨by rw [hU]; exact hP, kK_warm hW hK⟩) ⟨rfl, rfl, Nat.le_of_ble_eq_true rfl, Nat.le_of_ble_eq_true rfl⟩ rfl hl.1 rfl (Nat.le_of_ble_eq_true rfl) dX9_canSet_15 ⟨Nat.le_of_ble_eq_true rfl, Nat.le_of_ble_eq_true rfl⟩) ?_
        refine lv_if_eq (tgt := 27) hx hb dX9_canSet_18 (by decide) (fun c2 => ?_) (fun c2 => ?_)
        · skip
          have c2 := b2i_0 c2
          refine lv_iconst (v := 0) hx hb dX9_canSet_27 rfl ?_
          refine lv_ior hx hb dX9_canSet_28 ?_
          refine top_i (x := (setB (fun j => yCan r i (nI j)) n) ||| 0) (y := setB (fun j => yCan r i (nI j)) (n + 1)) (setB_0 (p := (fun j => yCan r i (nI j))) c2) ?_
          refine lv_istore_n (lv' := [(2, .int (setB (fun j => yCan r i (nI j)) (n + 1))), (0, .ref (a)), (1, .int (i)), (3, .int (nI n))]) hx hb dX9_canSet_29 rfl hl (by decide) rfl (fun ls hl => ?_)
          refine lv_iinc (v := nI (n + 1)) (lv' := [(3, .int (nI (n + 1))), (2, .int (setB (fun j => yCan r i (nI j)) (n + 1))), (0, .ref (a)), (1, .int (i))]) hx hb dX9_canSet_30 hl (k := 3) rfl (inc_nI n) (by decide) rfl (fun ls hl => ?_)
          refine lv_goto (tgt := 4) hx hb dX9_canSet_33 (by decide) ?_
          exact ih4 (n + 1) (by have := hw.n6; omega) (by omega) _ (lv_sub hl [2, 3, 1, 0] rfl)
        · skip
          have c2 := b2i_1 c2
          refine lv_iconst (v := 1) hx hb dX9_canSet_21 rfl ?_
          refine lv_iload_n hx hb dX9_canSet_22 rfl (lv_at hl 3 rfl) ?_
          refine lv_ishl hx hb dX9_canSet_23 ?_
          refine lv_goto (tgt := 28) hx hb dX9_canSet_24 (by decide) ?_
          refine lv_ior hx hb dX9_canSet_28 ?_
          refine top_i (x := (setB (fun j => yCan r i (nI j)) n) ||| (1 <<< ((nI n) &&& 31))) (y := setB (fun j => yCan r i (nI j)) (n + 1)) (setB_t (p := (fun j => yCan r i (nI j))) c2) ?_
          refine lv_istore_n (lv' := [(2, .int (setB (fun j => yCan r i (nI j)) (n + 1))), (0, .ref (a)), (1, .int (i)), (3, .int (nI n))]) hx hb dX9_canSet_29 rfl hl (by decide) rfl (fun ls hl => ?_)
          refine lv_iinc (v := nI (n + 1)) (lv' := [(3, .int (nI (n + 1))), (2, .int (setB (fun j => yCan r i (nI j)) (n + 1))), (0, .ref (a)), (1, .int (i))]) hx hb dX9_canSet_30 hl (k := 3) rfl (inc_nI n) (by decide) rfl (fun ls hl => ?_)
          refine lv_goto (tgt := 4) hx hb dX9_canSet_33 (by decide) ?_
          exact ih4 (n + 1) (by have := hw.n6; omega) (by omega) _ (lv_sub hl [2, 3, 1, 0] rfl)
  exact cut4 _ 0 (Nat.lt_succ_self _) (by have := hw.2.2.1.1; exact this) _ (lv_sub hl [2, 3, 1, 0] rfl)
set_option maxHeartbeats 4000000 in
set_option maxRecDepth 100000 in
theorem kX9_brokenOf (l : Launch) (g : gG) (a : Nat) (r : Nat → Int32)  (hw : Wf r) : Met l yX9_brokenOf (.code yX9_brokenOf cX9_brokenOf 3 (some .int) :: gw) (rmN 1) (va_Pc [.ref (a)] (roPre g (aW g a 45 r))) (vp_Si (fun v => v = (setB (fun j => mBrk r (nI j)) (cl (r 2))))) 0 0 (fun _ => False) := by
  refine met_start (by decide) (Nat.le_of_ble_eq_true rfl) ?_
  intro pp ee ss mm bl mt cd hC hpre ls hl
  obtain ⟨⟨hx, hb, hml, hown, hts⟩, hr, hlk, hnm⟩ := id hC
  have hl : lv_has ls 3 [(0, .ref (a))] := hl
  obtain ⟨hP, hK⟩ := hpre
  refine lv_iconst (v := 0) hx hb dX9_brokenOf_0 rfl ?_
  refine lv_istore_n (lv' := [(1, .int (0)), (0, .ref (a))]) hx hb dX9_brokenOf_1 rfl hl (by decide) rfl (fun ls hl => ?_)
  refine lv_iconst (v := 0) hx hb dX9_brokenOf_2 rfl ?_
  refine lv_istore_n (lv' := [(2, .int (0)), (1, .int (0)), (0, .ref (a))]) hx hb dX9_brokenOf_3 rfl hl (by decide) rfl (fun ls hl => ?_)
  have cut4 : ∀ kk : Nat, ∀ (n : Nat), 7 - n < kk → (hn : (n : Int) ≤ (r 2).toInt) → ∀ (ls : Array Slot), lv_has ls 3 [(0, .ref (a)), (1, .int (setB (fun j => mBrk r (nI j)) n)), (2, .int (nI n))] → W pp l ee (rmN 1) ss mm ([.ref (a)] : List Value).toArray bl mt cd ss.heap [] 0 0 (MQ bl (vp_Si (fun v => v = (setB (fun j => mBrk r (nI j)) (cl (r 2))))) ([.ref (a)] : List Value).toArray ss 0 0 (fun _ => False)) (F0 mm 4 ls []) := by
    intro kk
    induction kk with
    | zero => intro n hmu; exact absurd hmu (Nat.not_lt_zero _)
    | succ kk ih4 =>
      intro n hmu hn ls hl
      refine lv_iload_n hx hb dX9_brokenOf_4 rfl (lv_at hl 2 rfl) ?_
      refine lv_aload_n hx hb dX9_brokenOf_5 rfl (lv_at hl 0 rfl) ?_
      refine lv_iconst (v := 2) hx hb dX9_brokenOf_6 rfl ?_
      refine kald (v := r 2) hC.1 hK hP 0 rfl (show vp_in (nI 2) 45 from vp_in_nI (by omega) (by omega)) (congrArg r (show cl 2 = 2 from by decide)) dX9_brokenOf_7 ?_
      refine lv_icmp_ge (tgt := 35) hx hb dX9_brokenOf_8 (by decide) (fun c1 => ?_) (fun c1 => ?_)
      · skip
        have c1' := Int32.not_lt.mpr c1
        have hge := lp_ge (by have := hw.n6; omega) c1
        have hend : cl (r 2) = n := by have := cl_ti (i := r 2) hw.2.2.1.1; omega
        refine lv_iload_n hx hb dX9_brokenOf_35 rfl (lv_at hl 1 rfl) ?_
        exact ret_roi hx hb hr hlk (by rw [hend]) dX9_brokenOf_36
      · skip
        have c1' := Int32.not_le.mp c1
        have hlt := lp_lt (by have := hw.n6; omega) c1
        have hni := nut_nI hlt
        refine lv_iload_n hx hb dX9_brokenOf_11 rfl (lv_at hl 1 rfl) ?_
        refine lv_aload_n hx hb dX9_brokenOf_12 rfl (lv_at hl 0 rfl) ?_
        refine lv_iload_n hx hb dX9_brokenOf_13 rfl (lv_at hl 2 rfl) ?_
        refine ro_i (run_S (As := [.ref (a), .int (nI n)]) (rest := [.int (setB (fun j => mBrk r (nI j)) n)]) hC.1 ckX9_isBroken (kX9_isBroken l g a r (nI n) (yNut_in hni hw.n6)) (gw_in m_1133 rfl) (fb_ro _ _ _) (fun U hU hW => ⟨by rw [hU]; exact hP, kK_warm hW hK⟩) ⟨rfl, rfl, Nat.le_of_ble_eq_true rfl, Nat.le_of_ble_eq_true rfl⟩ rfl hl.1 rfl (Nat.le_of_ble_eq_true rfl) dX9_brokenOf_14 ⟨Nat.le_of_ble_eq_true rfl, Nat.le_of_ble_eq_true rfl⟩) ?_
        refine lv_if_eq (tgt := 26) hx hb dX9_brokenOf_17 (by decide) (fun c2 => ?_) (fun c2 => ?_)
        · skip
          have c2 := b2i_0 c2
          refine lv_iconst (v := 0) hx hb dX9_brokenOf_26 rfl ?_
          refine lv_ior hx hb dX9_brokenOf_27 ?_
          refine top_i (x := (setB (fun j => mBrk r (nI j)) n) ||| 0) (y := setB (fun j => mBrk r (nI j)) (n + 1)) (setB_0 (p := (fun j => mBrk r (nI j))) c2) ?_
          refine lv_istore_n (lv' := [(1, .int (setB (fun j => mBrk r (nI j)) (n + 1))), (0, .ref (a)), (2, .int (nI n))]) hx hb dX9_brokenOf_28 rfl hl (by decide) rfl (fun ls hl => ?_)
          refine lv_iinc (v := nI (n + 1)) (lv' := [(2, .int (nI (n + 1))), (1, .int (setB (fun j => mBrk r (nI j)) (n + 1))), (0, .ref (a))]) hx hb dX9_brokenOf_29 hl (k := 2) rfl (inc_nI n) (by decide) rfl (fun ls hl => ?_)
          refine lv_goto (tgt := 4) hx hb dX9_brokenOf_32 (by decide) ?_
          exact ih4 (n + 1) (by have := hw.n6; omega) (by omega) _ (lv_sub hl [2, 1, 0] rfl)
        · skip
          have c2 := b2i_1 c2
          refine lv_iconst (v := 1) hx hb dX9_brokenOf_20 rfl ?_
          refine lv_iload_n hx hb dX9_brokenOf_21 rfl (lv_at hl 2 rfl) ?_
          refine lv_ishl hx hb dX9_brokenOf_22 ?_
          refine lv_goto (tgt := 27) hx hb dX9_brokenOf_23 (by decide) ?_
          refine lv_ior hx hb dX9_brokenOf_27 ?_
          refine top_i (x := (setB (fun j => mBrk r (nI j)) n) ||| (1 <<< ((nI n) &&& 31))) (y := setB (fun j => mBrk r (nI j)) (n + 1)) (setB_t (p := (fun j => mBrk r (nI j))) c2) ?_
          refine lv_istore_n (lv' := [(1, .int (setB (fun j => mBrk r (nI j)) (n + 1))), (0, .ref (a)), (2, .int (nI n))]) hx hb dX9_brokenOf_28 rfl hl (by decide) rfl (fun ls hl => ?_)
          refine lv_iinc (v := nI (n + 1)) (lv' := [(2, .int (nI (n + 1))), (1, .int (setB (fun j => mBrk r (nI j)) (n + 1))), (0, .ref (a))]) hx hb dX9_brokenOf_29 hl (k := 2) rfl (inc_nI n) (by decide) rfl (fun ls hl => ?_)
          refine lv_goto (tgt := 4) hx hb dX9_brokenOf_32 (by decide) ?_
          exact ih4 (n + 1) (by have := hw.n6; omega) (by omega) _ (lv_sub hl [2, 1, 0] rfl)
  exact cut4 _ 0 (Nat.lt_succ_self _) (by have := hw.2.2.1.1; exact this) _ (lv_sub hl [2, 1, 0] rfl)
set_option maxHeartbeats 4000000 in
set_option maxRecDepth 100000 in
theorem kX9_begins (l : Launch) (g : gG) (a : Nat) (r : Nat → Int32) (t : Int32) : Met l yX9_begins (.code yX9_begins cX9_begins 3 none :: gw) (rmN 0) (va_Pc [.ref (a), .int (t)] (rwPre g (aW g a 45 r ++ []))) (rwQv g (aW g a 45 r ++ []) (aW g a 45 (upd (fun _ => 0) 0 t) ++ [])) 0 0 (dm (aW g a 45 r ++ [])) := by
  refine met_start (by decide) (Nat.le_of_ble_eq_true rfl) ?_
  intro pp ee ss mm bl mt cd hC hpre ls hl
  obtain ⟨⟨hx, hb, hml, hown, hts⟩, hr, hlk, hnm⟩ := id hC
  have hl : lv_has ls 3 [(0, .ref (a)), (1, .int (t))] := hl
  obtain ⟨hP, hK, hD⟩ := hpre
  have hS : va_S (dm (aW g a 45 r ++ [])) ss.heap ss.heap [] := va_S.rf
  have hD := vD_self hD
  have hP : kP g (aW g a 45 (cpF (fun _ => 0) r 0) ++ []) _ := kP_eq (by rw [cpF_0]) hP
  have hD : va_D _ (aW g a 45 (cpF (fun _ => 0) r 0) ++ []) := vD_eq (by rw [cpF_0]) hD
  refine lv_iconst (v := 0) hx hb dX9_begins_0 rfl ?_
  refine lv_istore_n (lv' := [(2, .int (0)), (0, .ref (a)), (1, .int (t))]) hx hb dX9_begins_1 rfl hl (by decide) rfl (fun ls hl => ?_)
  have cut2 : ∀ kk : Nat, ∀ (n : Nat), 46 - n < kk → (hn : n ≤ 45) → ∀ (H : Heap) (locs : List Loc), kP g (aW g a 45 (cpF (fun _ => 0) r n) ++ []) H → va_D (dm (aW g a 45 r ++ [])) (aW g a 45 (cpF (fun _ => 0) r n) ++ []) → va_S (dm (aW g a 45 r ++ [])) ss.heap H locs → ∀ (ls : Array Slot), lv_has ls 3 [(0, .ref (a)), (1, .int (t)), (2, .int (nI n))] → W pp l ee (rmN 0) ss mm ([.ref (a), .int (t)] : List Value).toArray bl mt cd H locs 0 0 (MQ bl (rwQv g (aW g a 45 r ++ []) (aW g a 45 (upd (fun _ => 0) 0 t) ++ [])) ([.ref (a), .int (t)] : List Value).toArray ss 0 0 (dm (aW g a 45 r ++ []))) (F0 mm 2 ls []) := by
    intro kk
    induction kk with
    | zero => intro n hmu; exact absurd hmu (Nat.not_lt_zero _)
    | succ kk ih2 =>
      intro n hmu hn H locs hP hD hS ls hl
      refine lv_iload_n hx hb dX9_begins_2 rfl (lv_at hl 2 rfl) ?_
      refine lv_bipush (v := 45) hx hb dX9_begins_3 rfl ?_
      refine lv_icmp_ge (tgt := 18) hx hb dX9_begins_5 (by decide) (fun c1 => ?_) (fun c1 => ?_)
      · skip
        have c1' := Int32.not_lt.mpr c1
        have hn9 : n = 45 := by have := lp_ge (by omega) c1; rw [show (45 : Int32).toInt = 45 from rfl] at this; omega
        subst hn9
        refine lv_aload_n hx hb dX9_begins_18 rfl (lv_at hl 0 rfl) ?_
        refine lv_iconst (v := 0) hx hb dX9_begins_19 rfl ?_
        refine lv_iload_n hx hb dX9_begins_20 rfl (lv_at hl 1 rfl) ?_
        refine kast (B' := aW g a 45 (upd (cpF (fun _ => 0) r 45) 0 t)) hC.1 hK hP hD hS 0 rfl (show vp_in (nI 0) 45 from vp_in_nI (by omega) (by omega)) (fun _ h => by rw [(show cl 0 = 0 from by decide)] at h; exact h) aW_adr dX9_begins_21 (fun H locs hP hD hS => ?_)
        exact ret_rwv hx hb hr hlk (kP_new (aW_arr (fun j hj => zr_in hj)) hP) hS dX9_begins_22
      · skip
        have c1' := Int32.not_le.mp c1
        have hn9 : n < 45 := by have := lp_lt (by omega) c1; rw [show (45 : Int32).toInt = 45 from rfl] at this; omega
        refine lv_aload_n hx hb dX9_begins_8 rfl (lv_at hl 0 rfl) ?_
        refine lv_iload_n hx hb dX9_begins_9 rfl (lv_at hl 2 rfl) ?_
        refine lv_iconst (v := 0) hx hb dX9_begins_10 rfl ?_
        refine kast (B' := aW g a 45 (upd (cpF (fun _ => 0) r n) n 0)) hC.1 hK hP hD hS 0 rfl (vp_in_nI hn9 (by omega)) (fun _ h => by rw [cl_nI (by omega)] at h; exact h) aW_adr dX9_begins_11 (fun H locs hP hD hS => ?_)
        refine lv_iinc (v := nI (n + 1)) (lv' := [(2, .int (nI (n + 1))), (0, .ref (a)), (1, .int (t))]) hx hb dX9_begins_12 hl (k := 2) rfl (inc_nI n) (by decide) rfl (fun ls hl => ?_)
        refine lv_goto (tgt := 2) hx hb dX9_begins_15 (by decide) ?_
        have hP : kP g (aW g a 45 (cpF (fun _ => 0) r (n + 1)) ++ []) _ := kP_eq (by rw [show (cpF (fun _ => 0) r (n + 1)) = (upd (cpF (fun _ => 0) r n) n 0) from cpF_s]) hP
        have hD : va_D _ (aW g a 45 (cpF (fun _ => 0) r (n + 1)) ++ []) := vD_eq (by rw [show (cpF (fun _ => 0) r (n + 1)) = (upd (cpF (fun _ => 0) r n) n 0) from cpF_s]) hD
        exact ih2 (n + 1) (by omega) (by omega) _ _ hP hD hS _ (lv_sub hl [1, 2, 0] rfl)
  exact cut2 _ 0 (Nat.lt_succ_self _) (by omega) _ _ hP hD hS _ (lv_sub hl [1, 2, 0] rfl)
set_option maxHeartbeats 4000000 in
set_option maxRecDepth 100000 in
theorem kX9_joins (l : Launch) (g : gG) (a : Nat) (r : Nat → Int32) (k q : Int32) (hp : bd (r 1) 0 2) : Met l yX9_joins (.code yX9_joins cX9_joins 4 (some .int) :: gw) (rmN 0) (va_Pc [.ref (a), .int (k), .int (q)] (rwPre g (aW g a 45 r ++ []))) (rwQi g (aW g a 45 r ++ []) (aW g a 45 (adP r k q) ++ []) (r 1)) 0 0 (dm (aW g a 45 r ++ [])) := by
  refine met_start (by decide) (Nat.le_of_ble_eq_true rfl) ?_
  intro pp ee ss mm bl mt cd hC hpre ls hl
  obtain ⟨⟨hx, hb, hml, hown, hts⟩, hr, hlk, hnm⟩ := id hC
  have hl : lv_has ls 4 [(0, .ref (a)), (1, .int (k)), (2, .int (q))] := hl
  obtain ⟨hP, hK, hD⟩ := hpre
  have hS : va_S (dm (aW g a 45 r ++ [])) ss.heap ss.heap [] := va_S.rf
  have hD := vD_self hD
  refine lv_aload_n hx hb dX9_joins_0 rfl (lv_at hl 0 rfl) ?_
  refine lv_iconst (v := 1) hx hb dX9_joins_1 rfl ?_
  refine kald (v := r 1) hC.1 hK (kP_app.mp hP).1 0 rfl (show vp_in (nI 1) 45 from vp_in_nI (by omega) (by omega)) (congrArg r (show cl 1 = 1 from by decide)) dX9_joins_2 ?_
  refine lv_istore_n (lv' := [(3, .int (r 1)), (0, .ref (a)), (1, .int (k)), (2, .int (q))]) hx hb dX9_joins_3 rfl hl (by decide) rfl (fun ls hl => ?_)
  refine lv_aload_n hx hb dX9_joins_4 rfl (lv_at hl 1 rfl) ?_
  refine lv_iconst (v := 3) hx hb dX9_joins_5 rfl ?_
  refine lv_iload_n hx hb dX9_joins_6 rfl (lv_at hl 0 rfl) ?_
  refine lv_iadd hx hb dX9_joins_7 ?_
  refine lv_iload_n hx hb dX9_joins_8 rfl (lv_at hl 2 rfl) ?_
  refine kast (B' := aW g a 45 (upd r (3 + cl (r 1)) k)) hC.1 hK hP hD hS 0 rfl (ix_in (K := 3) (in_bd (n := 2) hp) (by omega) (by omega)) (fun _ h => by rw [(show cl (3 + (r 1)) = 3 + cl (r 1) from ix_cl (K := 3) (in_bd (n := 2) hp) (by omega))] at h; exact h) aW_adr dX9_joins_9 (fun H locs hP hD hS => ?_)
  refine lv_aload_n hx hb dX9_joins_10 rfl (lv_at hl 1 rfl) ?_
  refine lv_bipush (v := 6) hx hb dX9_joins_11 rfl ?_
  refine lv_iload_n hx hb dX9_joins_13 rfl (lv_at hl 0 rfl) ?_
  refine lv_iadd hx hb dX9_joins_14 ?_
  refine lv_iload_n hx hb dX9_joins_15 rfl (lv_at hl 3 rfl) ?_
  refine kast (B' := aW g a 45 (upd (upd r (3 + cl (r 1)) k) (6 + cl (r 1)) q)) hC.1 hK hP hD hS 0 rfl (ix_in (K := 6) (in_bd (n := 2) hp) (by omega) (by omega)) (fun _ h => by rw [(show cl (6 + (r 1)) = 6 + cl (r 1) from ix_cl (K := 6) (in_bd (n := 2) hp) (by omega))] at h; exact h) aW_adr dX9_joins_16 (fun H locs hP hD hS => ?_)
  refine lv_aload_n hx hb dX9_joins_17 rfl (lv_at hl 1 rfl) ?_
  refine lv_iconst (v := 1) hx hb dX9_joins_18 rfl ?_
  refine lv_dup2_11 hx hb dX9_joins_19 rfl rfl ?_
  refine kald (v := r 1) hC.1 hK (kP_app.mp hP).1 0 rfl (show vp_in (nI 1) 45 from vp_in_nI (by omega) (by omega)) (by rw [show cl 1 = 1 from by decide, upd_ne (by omega), upd_ne (by omega)]) dX9_joins_20 ?_
  refine lv_iconst (v := 1) hx hb dX9_joins_21 rfl ?_
  refine lv_iadd hx hb dX9_joins_22 ?_
  refine kast (B' := aW g a 45 (upd (upd (upd r (3 + cl (r 1)) k) (6 + cl (r 1)) q) 1 ((r 1) + 1))) hC.1 hK hP hD hS 0 rfl (show vp_in (nI 1) 45 from vp_in_nI (by omega) (by omega)) (fun _ h => by rw [(show cl 1 = 1 from by decide)] at h; exact h) aW_adr dX9_joins_23 (fun H locs hP hD hS => ?_)
  refine lv_iload_n hx hb dX9_joins_24 rfl (lv_at hl 0 rfl) ?_
  exact ret_rwi hx hb hr hlk (by rfl) (hP) hS dX9_joins_25
set_option maxHeartbeats 4000000 in
set_option maxRecDepth 100000 in
theorem kX9_comes (l : Launch) (g : gG) (a : Nat) (r : Nat → Int32) (q k h w : Int32) (hp : bd (r 2) 0 5) : Met l yX9_comes (.code yX9_comes cX9_comes 6 (some .int) :: gw) (rmN 0) (va_Pc [.ref (a), .int (q), .int (k), .int (h), .int (w)] (rwPre g (aW g a 45 r ++ []))) (rwQi g (aW g a 45 r ++ []) (aW g a 45 (adN r q k h w) ++ []) (r 2)) 0 0 (dm (aW g a 45 r ++ [])) := by
  refine met_start (by decide) (Nat.le_of_ble_eq_true rfl) ?_
  intro pp ee ss mm bl mt cd hC hpre ls hl
  obtain ⟨⟨hx, hb, hml, hown, hts⟩, hr, hlk, hnm⟩ := id hC
  have hl : lv_has ls 6 [(0, .ref (a)), (1, .int (q)), (2, .int (k)), (3, .int (h)), (4, .int (w))] := hl
  obtain ⟨hP, hK, hD⟩ := hpre
  have hS : va_S (dm (aW g a 45 r ++ [])) ss.heap ss.heap [] := va_S.rf
  have hD := vD_self hD
  refine lv_aload_n hx hb dX9_comes_0 rfl (lv_at hl 0 rfl) ?_
  refine lv_iconst (v := 2) hx hb dX9_comes_1 rfl ?_
  refine kald (v := r 2) hC.1 hK (kP_app.mp hP).1 0 rfl (show vp_in (nI 2) 45 from vp_in_nI (by omega) (by omega)) (congrArg r (show cl 2 = 2 from by decide)) dX9_comes_2 ?_
  refine lv_istore (lv' := [(5, .int (r 2)), (0, .ref (a)), (1, .int (q)), (2, .int (k)), (3, .int (h)), (4, .int (w))]) hx hb dX9_comes_3 hl (by decide) rfl (fun ls hl => ?_)
  refine lv_aload_n hx hb dX9_comes_5 rfl (lv_at hl 1 rfl) ?_
  refine lv_bipush (v := 9) hx hb dX9_comes_6 rfl ?_
  refine lv_iload hx hb dX9_comes_8 (lv_at hl 0 rfl) ?_
  refine lv_iadd hx hb dX9_comes_10 ?_
  refine lv_iload_n hx hb dX9_comes_11 rfl (lv_at hl 2 rfl) ?_
  refine kast (B' := aW g a 45 (upd r (9 + cl (r 2)) q)) hC.1 hK hP hD hS 0 rfl (ix_in (K := 9) (in_bd (n := 5) hp) (by omega) (by omega)) (fun _ h => by rw [(show cl (9 + (r 2)) = 9 + cl (r 2) from ix_cl (K := 9) (in_bd (n := 5) hp) (by omega))] at h; exact h) aW_adr dX9_comes_12 (fun H locs hP hD hS => ?_)
  refine lv_aload_n hx hb dX9_comes_13 rfl (lv_at hl 1 rfl) ?_
  refine lv_bipush (v := 15) hx hb dX9_comes_14 rfl ?_
  refine lv_iload hx hb dX9_comes_16 (lv_at hl 0 rfl) ?_
  refine lv_iadd hx hb dX9_comes_18 ?_
  refine lv_iload_n hx hb dX9_comes_19 rfl (lv_at hl 3 rfl) ?_
  refine kast (B' := aW g a 45 (upd (upd r (9 + cl (r 2)) q) (15 + cl (r 2)) k)) hC.1 hK hP hD hS 0 rfl (ix_in (K := 15) (in_bd (n := 5) hp) (by omega) (by omega)) (fun _ h => by rw [(show cl (15 + (r 2)) = 15 + cl (r 2) from ix_cl (K := 15) (in_bd (n := 5) hp) (by omega))] at h; exact h) aW_adr dX9_comes_20 (fun H locs hP hD hS => ?_)
  refine lv_aload_n hx hb dX9_comes_21 rfl (lv_at hl 1 rfl) ?_
  refine lv_bipush (v := 21) hx hb dX9_comes_22 rfl ?_
  refine lv_iload hx hb dX9_comes_24 (lv_at hl 0 rfl) ?_
  refine lv_iadd hx hb dX9_comes_26 ?_
  refine lv_iload_n hx hb dX9_comes_27 rfl (lv_at hl 4 rfl) ?_
  refine kast (B' := aW g a 45 (upd (upd (upd r (9 + cl (r 2)) q) (15 + cl (r 2)) k) (21 + cl (r 2)) h)) hC.1 hK hP hD hS 0 rfl (ix_in (K := 21) (in_bd (n := 5) hp) (by omega) (by omega)) (fun _ h => by rw [(show cl (21 + (r 2)) = 21 + cl (r 2) from ix_cl (K := 21) (in_bd (n := 5) hp) (by omega))] at h; exact h) aW_adr dX9_comes_28 (fun H locs hP hD hS => ?_)
  refine lv_aload_n hx hb dX9_comes_29 rfl (lv_at hl 1 rfl) ?_
  refine lv_bipush (v := 27) hx hb dX9_comes_30 rfl ?_
  refine lv_iload hx hb dX9_comes_32 (lv_at hl 0 rfl) ?_
  refine lv_iadd hx hb dX9_comes_34 ?_
  refine lv_iload hx hb dX9_comes_35 (lv_at hl 5 rfl) ?_
  refine kast (B' := aW g a 45 (upd (upd (upd (upd r (9 + cl (r 2)) q) (15 + cl (r 2)) k) (21 + cl (r 2)) h) (27 + cl (r 2)) w)) hC.1 hK hP hD hS 0 rfl (ix_in (K := 27) (in_bd (n := 5) hp) (by omega) (by omega)) (fun _ h => by rw [(show cl (27 + (r 2)) = 27 + cl (r 2) from ix_cl (K := 27) (in_bd (n := 5) hp) (by omega))] at h; exact h) aW_adr dX9_comes_37 (fun H locs hP hD hS => ?_)
  refine lv_aload_n hx hb dX9_comes_38 rfl (lv_at hl 1 rfl) ?_
  refine lv_bipush (v := 33) hx hb dX9_comes_39 rfl ?_
  refine lv_iload hx hb dX9_comes_41 (lv_at hl 0 rfl) ?_
  refine lv_iadd hx hb dX9_comes_43 ?_
  refine lv_iconst (v := 0) hx hb dX9_comes_44 rfl ?_
  refine kast (B' := aW g a 45 (upd (upd (upd (upd (upd r (9 + cl (r 2)) q) (15 + cl (r 2)) k) (21 + cl (r 2)) h) (27 + cl (r 2)) w) (33 + cl (r 2)) 0)) hC.1 hK hP hD hS 0 rfl (ix_in (K := 33) (in_bd (n := 5) hp) (by omega) (by omega)) (fun _ h => by rw [(show cl (33 + (r 2)) = 33 + cl (r 2) from ix_cl (K := 33) (in_bd (n := 5) hp) (by omega))] at h; exact h) aW_adr dX9_comes_45 (fun H locs hP hD hS => ?_)
  refine lv_aload_n hx hb dX9_comes_46 rfl (lv_at hl 1 rfl) ?_
  refine lv_bipush (v := 39) hx hb dX9_comes_47 rfl ?_
  refine lv_iload hx hb dX9_comes_49 (lv_at hl 0 rfl) ?_
  refine lv_iadd hx hb dX9_comes_51 ?_
  refine lv_iconst (v := 1) hx hb dX9_comes_52 rfl ?_
  refine kast (B' := aW g a 45 (upd (upd (upd (upd (upd (upd r (9 + cl (r 2)) q) (15 + cl (r 2)) k) (21 + cl (r 2)) h) (27 + cl (r 2)) w) (33 + cl (r 2)) 0) (39 + cl (r 2)) 1)) hC.1 hK hP hD hS 0 rfl (ix_in (K := 39) (in_bd (n := 5) hp) (by omega) (by omega)) (fun _ h => by rw [(show cl (39 + (r 2)) = 39 + cl (r 2) from ix_cl (K := 39) (in_bd (n := 5) hp) (by omega))] at h; exact h) aW_adr dX9_comes_53 (fun H locs hP hD hS => ?_)
  refine lv_aload_n hx hb dX9_comes_54 rfl (lv_at hl 1 rfl) ?_
  refine lv_iconst (v := 2) hx hb dX9_comes_55 rfl ?_
  refine lv_dup2_11 hx hb dX9_comes_56 rfl rfl ?_
  refine kald (v := r 2) hC.1 hK (kP_app.mp hP).1 0 rfl (show vp_in (nI 2) 45 from vp_in_nI (by omega) (by omega)) (by rw [show cl 2 = 2 from by decide, upd_ne (by omega), upd_ne (by omega), upd_ne (by omega), upd_ne (by omega), upd_ne (by omega), upd_ne (by omega)]) dX9_comes_57 ?_
  refine lv_iconst (v := 1) hx hb dX9_comes_58 rfl ?_
  refine lv_iadd hx hb dX9_comes_59 ?_
  refine kast (B' := aW g a 45 (upd (upd (upd (upd (upd (upd (upd r (9 + cl (r 2)) q) (15 + cl (r 2)) k) (21 + cl (r 2)) h) (27 + cl (r 2)) w) (33 + cl (r 2)) 0) (39 + cl (r 2)) 1) 2 ((r 2) + 1))) hC.1 hK hP hD hS 0 rfl (show vp_in (nI 2) 45 from vp_in_nI (by omega) (by omega)) (fun _ h => by rw [(show cl 2 = 2 from by decide)] at h; exact h) aW_adr dX9_comes_60 (fun H locs hP hD hS => ?_)
  refine lv_iload hx hb dX9_comes_61 (lv_at hl 0 rfl) ?_
  exact ret_rwi hx hb hr hlk (by rfl) (hP) hS dX9_comes_63
set_option maxHeartbeats 4000000 in
set_option maxRecDepth 100000 in
theorem kX9_bits (l : Launch) (M : Nat) (hM : M < 64) : Met l yX9_bits (.code yX9_bits cX9_bits 3 (some .int) :: gw) (rmN 0) (va_Pc [.int (nI M)] (fun _ => True)) (vp_Si (fun v => v = (bcF (nI M)))) 0 0 (fun _ => False) := by
  refine met_start (by decide) (Nat.le_of_ble_eq_true rfl) ?_
  intro pp ee ss mm bl mt cd hC hpre ls hl
  obtain ⟨⟨hx, hb, hml, hown, hts⟩, hr, hlk, hnm⟩ := id hC
  have hl : lv_has ls 3 [(0, .int (nI M))] := hl
  refine lv_iconst (v := 0) hx hb dX9_bits_0 rfl ?_
  refine lv_istore_n (lv' := [(1, .int (0)), (0, .int (nI M))]) hx hb dX9_bits_1 rfl hl (by decide) rfl (fun ls hl => ?_)
  refine lv_iload_n hx hb dX9_bits_2 rfl (lv_at hl 1 rfl) ?_
  refine lv_istore_n (lv' := [(2, .int (nI M)), (1, .int (0)), (0, .int (nI M))]) hx hb dX9_bits_3 rfl hl (by decide) rfl (fun ls hl => ?_)
  have cut4 : ∀ kk : Nat, ∀ (z : Nat) (w : Int32), z + 1 < kk → (hz : z < 64) → (he : w + bcF (nI z) = bcF (nI M)) → ∀ (ls : Array Slot), lv_has ls 3 [(1, .int (w)), (2, .int (nI z))] → W pp l ee (rmN 0) ss mm ([.int (nI M)] : List Value).toArray bl mt cd ss.heap [] 0 0 (MQ bl (vp_Si (fun v => v = (bcF (nI M)))) ([.int (nI M)] : List Value).toArray ss 0 0 (fun _ => False)) (F0 mm 4 ls []) := by
    intro kk
    induction kk with
    | zero => intro z w hmu; exact absurd hmu (Nat.not_lt_zero _)
    | succ kk ih4 =>
      intro z w hmu hz he ls hl
      refine lv_iload_n hx hb dX9_bits_4 rfl (lv_at hl 1 rfl) ?_
      refine lv_if_eq (tgt := 20) hx hb dX9_bits_5 (by decide) (fun c1 => ?_) (fun c1 => ?_)
      · skip
        have hz0 : z = 0 := by rw [show (0 : Int32) = nI 0 from rfl, nI_eq (by omega) (by omega)] at c1; exact c1
        subst hz0
        refine lv_iload_n hx hb dX9_bits_20 rfl (lv_at hl 0 rfl) ?_
        exact ret_roi hx hb hr hlk (by rw [← he, show bcF (nI 0) = 0 from by decide, Int32.add_zero]) dX9_bits_21
      · skip
        have hbz := bits_s z hz (fun e => c1 (by rw [e]; rfl))
        refine lv_iinc (v := w + 1) (lv' := [(1, .int (w + 1)), (2, .int (nI z))]) hx hb dX9_bits_8 hl (k := 0) rfl rfl (by decide) rfl (fun ls hl => ?_)
        refine lv_iload_n hx hb dX9_bits_11 rfl (lv_at hl 1 rfl) ?_
        refine lv_iload_n hx hb dX9_bits_12 rfl (lv_at hl 1 rfl) ?_
        refine lv_iconst (v := 1) hx hb dX9_bits_13 rfl ?_
        refine lv_isub hx hb dX9_bits_14 ?_
        refine lv_iand hx hb dX9_bits_15 ?_
        refine top_i (x := (nI z) &&& ((nI z) - 1)) (y := nI (z &&& (z - 1))) hbz.1 ?_
        refine lv_istore_n (lv' := [(2, .int (nI (z &&& (z - 1)))), (1, .int (w + 1))]) hx hb dX9_bits_16 rfl hl (by decide) rfl (fun ls hl => ?_)
        refine lv_goto (tgt := 4) hx hb dX9_bits_17 (by decide) ?_
        exact ih4 (z &&& (z - 1)) (w + 1) (by omega) (by omega) (by rw [← he, ← hbz.2.1, Int32.add_assoc, Int32.add_comm 1]) _ (lv_sub hl [1, 0] rfl)
  exact cut4 _ M 0 (Nat.lt_succ_self _) hM (Int32.zero_add _) _ (lv_sub hl [1, 0] rfl)
