theorem ckX9_looked : ckV yX9_looked cX9_looked 9 (some .int) 3 := ⟨(gw_in m_1294 rfl), (gw_in m_71 rfl), ⟨(gw_in m_1293 rfl), (gw_in m_52 rfl)⟩, by decide +kernel, by decide +kernel, by decide +kernel⟩
theorem ckX9_tell : ckV yX9_tell cX9_tell 2 (some .int) 1 := ⟨(gw_in m_1290 rfl), (gw_in m_71 rfl), ⟨(gw_in m_1288 rfl), (gw_in m_1289 rfl)⟩, by decide +kernel, by decide +kernel, by decide +kernel⟩
theorem ckX9_look : ckV yX9_look cX9_look 2 (some .int) 1 := ⟨(gw_in m_1314 rfl), (gw_in m_71 rfl), ⟨(gw_in m_1312 rfl), (gw_in m_1313 rfl)⟩, by decide +kernel, by decide +kernel, by decide +kernel⟩
def lkP (r : Nat → Int32) (hd i s : Int32) : Nat → Int32 × Int32
  | 0 => (-1, 11)
  | m + 1 => if (lkP r hd i s m).2 ≤ alK r hd i s (nI (m / 10)) (nI (m % 10)) 10 then lkP r hd i s m else (nI m, alK r hd i s (nI (m / 10)) (nI (m % 10)) 10)
theorem lkP_s {r : Nat → Int32} {hd i s : Int32} {m : Nat} : lkP r hd i s (m + 1) = if (lkP r hd i s m).2 ≤ alK r hd i s (nI (m / 10)) (nI (m % 10)) 10 then lkP r hd i s m else (nI m, alK r hd i s (nI (m / 10)) (nI (m % 10)) 10) := rfl
set_option maxHeartbeats 4000000 in
set_option maxRecDepth 100000 in
theorem kX9_looked (l : Launch) (g : gG) (o : Nat → Nat) (ab be : Int64) (lm ra ta : Nat) (ti fa : Int32) (um ua : Nat) (hh : Int64) (r : Nat → Int32) (i s hd : Int32) (hi : vp_in i 6) : Met l yX9_looked (.code yX9_looked cX9_looked 9 (some .int) :: gw) (rmN 2) (va_Pc [.ref (o 0), .int (i), .int (s), .int (hd)] (roPre g (mO g o ab be lm ra ta ti fa um ua hh ++ (aW g (o 2) 45 r ++ [])))) (vp_Si (fun v => v = (if s = 0 then -1 else (lkP r hd i s (10 * 21)).1))) 0 0 (fun _ => False) := by
  refine met_start (by decide) (Nat.le_of_ble_eq_true rfl) ?_
  intro pp ee ss mm bl mt cd hC hpre ls hl
  obtain ⟨⟨hx, hb, hml, hown, hts⟩, hr, hlk, hnm⟩ := id hC
  have hl : lv_has ls 9 [(0, .ref (o 0)), (1, .int (i)), (2, .int (s)), (3, .int (hd))] := hl
  obtain ⟨hP, hK⟩ := hpre
  refine lv_iconst (v := -1) hx hb dX9_looked_0 rfl ?_
  refine lv_istore (lv' := [(4, .int (-1)), (0, .ref (o 0)), (1, .int (i)), (2, .int (s)), (3, .int (hd))]) hx hb dX9_looked_1 hl (by decide) rfl (fun ls hl => ?_)
  refine lv_bipush (v := 11) hx hb dX9_looked_3 rfl ?_
  refine lv_istore (lv' := [(5, .int (11)), (4, .int (-1)), (0, .ref (o 0)), (1, .int (i)), (2, .int (s)), (3, .int (hd))]) hx hb dX9_looked_5 hl (by decide) rfl (fun ls hl => ?_)
  refine lv_iconst (v := 0) hx hb dX9_looked_7 rfl ?_
  refine lv_istore (lv' := [(6, .int (0)), (5, .int (11)), (4, .int (-1)), (0, .ref (o 0)), (1, .int (i)), (2, .int (s)), (3, .int (hd))]) hx hb dX9_looked_8 hl (by decide) rfl (fun ls hl => ?_)
  have cut10 : ∀ kk : Nat, ∀ (k : Nat), 22 - k < kk → (hk : k ≤ 21) → ∀ (ls : Array Slot), lv_has ls 9 [(0, .ref (o 0)), (1, .int (i)), (2, .int (s)), (3, .int (hd)), (4, .int (if s = 0 then -1 else (lkP r hd i s (10 * k)).1)), (5, .int (if s = 0 then 11 else (lkP r hd i s (10 * k)).2)), (6, .int (nI k))] → W pp l ee (rmN 2) ss mm ([.ref (o 0), .int (i), .int (s), .int (hd)] : List Value).toArray bl mt cd ss.heap [] 0 0 (MQ bl (vp_Si (fun v => v = (if s = 0 then -1 else (lkP r hd i s (10 * 21)).1))) ([.ref (o 0), .int (i), .int (s), .int (hd)] : List Value).toArray ss 0 0 (fun _ => False)) (F0 mm 10 ls []) := by
    intro kk
    induction kk with
    | zero => intro k hmu; exact absurd hmu (Nat.not_lt_zero _)
    | succ kk ih10 =>
      intro k hmu hk ls hl
      refine lv_iload hx hb dX9_looked_10 (lv_at hl 6 rfl) ?_
      refine lv_bipush (v := 20) hx hb dX9_looked_12 rfl ?_
      refine lv_icmp_gt (tgt := 94) hx hb dX9_looked_14 (by decide) (fun c1 => ?_) (fun c1 => ?_)
      · skip
        have c1' := Int32.not_le.mpr c1
        have hk9 : k = 21 := by have h9 := c1; rw [Int32.lt_iff_toInt_lt, nI_ti (by omega), show (20 : Int32).toInt = 20 from rfl] at h9; omega
        subst hk9
        refine lv_iload hx hb dX9_looked_94 (lv_at hl 4 rfl) ?_
        exact ret_roi hx hb hr hlk (by rfl) dX9_looked_96
      · skip
        have c1' := Int32.not_lt.mp c1
        have hk9 : k < 21 := by have h9 := c1; rw [Int32.lt_iff_toInt_lt, nI_ti (by omega), show (20 : Int32).toInt = 20 from rfl] at h9; omega
        refine lv_iconst (v := 0) hx hb dX9_looked_17 rfl ?_
        refine lv_istore (lv' := [(7, .int (0)), (0, .ref (o 0)), (1, .int (i)), (2, .int (s)), (3, .int (hd)), (4, .int (if s = 0 then -1 else (lkP r hd i s (10 * k)).1)), (5, .int (if s = 0 then 11 else (lkP r hd i s (10 * k)).2)), (6, .int (nI k))]) hx hb dX9_looked_18 hl (by decide) rfl (fun ls hl => ?_)
        have cut20 : ∀ kk : Nat, ∀ (n : Nat), 11 - n < kk → (hn : n ≤ 10) → ∀ (ls : Array Slot), lv_has ls 9 [(0, .ref (o 0)), (1, .int (i)), (2, .int (s)), (3, .int (hd)), (4, .int (if s = 0 then -1 else (lkP r hd i s (10 * k + n)).1)), (5, .int (if s = 0 then 11 else (lkP r hd i s (10 * k + n)).2)), (6, .int (nI k)), (7, .int (nI n))] → W pp l ee (rmN 2) ss mm ([.ref (o 0), .int (i), .int (s), .int (hd)] : List Value).toArray bl mt cd ss.heap [] 0 0 (MQ bl (vp_Si (fun v => v = (if s = 0 then -1 else (lkP r hd i s (10 * 21)).1))) ([.ref (o 0), .int (i), .int (s), .int (hd)] : List Value).toArray ss 0 0 (fun _ => False)) (F0 mm 20 ls []) := by
          intro kk
          induction kk with
          | zero => intro n hmu; exact absurd hmu (Nat.not_lt_zero _)
          | succ kk ih20 =>
            intro n hmu hn ls hl
            refine lv_iload hx hb dX9_looked_20 (lv_at hl 7 rfl) ?_
            refine lv_bipush (v := 10) hx hb dX9_looked_22 rfl ?_
            refine lv_icmp_ge (tgt := 88) hx hb dX9_looked_24 (by decide) (fun c2 => ?_) (fun c2 => ?_)
            · skip
              have c2' := Int32.not_lt.mpr c2
              have hn9 : n = 10 := by have := lp_ge (by omega) c2; rw [show (10 : Int32).toInt = 10 from rfl] at this; omega
              refine lv_iinc (v := nI (k + 1)) (lv' := [(6, .int (nI (k + 1))), (0, .ref (o 0)), (1, .int (i)), (2, .int (s)), (3, .int (hd)), (4, .int (if s = 0 then -1 else (lkP r hd i s (10 * k + n)).1)), (5, .int (if s = 0 then 11 else (lkP r hd i s (10 * k + n)).2)), (7, .int (nI n))]) hx hb dX9_looked_88 hl (k := 6) rfl (inc_nI k) (by decide) rfl (fun ls hl => ?_)
              refine lv_goto (tgt := 10) hx hb dX9_looked_91 (by decide) ?_
              have e4 : (if s = 0 then -1 else (lkP r hd i s (10 * (k + 1))).1) = if s = 0 then -1 else (lkP r hd i s (10 * k + n)).1 := by first | (rw [if_pos hs9, if_pos hs9]) | (rw [hn9, show 10 * (k + 1) = 10 * k + 10 from by omega])
              have e5 : (if s = 0 then 11 else (lkP r hd i s (10 * (k + 1))).2) = if s = 0 then 11 else (lkP r hd i s (10 * k + n)).2 := by first | (rw [if_pos hs9, if_pos hs9]) | (rw [hn9, show 10 * (k + 1) = 10 * k + 10 from by omega])
              have hl : lv_has ls 9 [(6, .int (nI (k + 1))), (0, .ref (o 0)), (1, .int (i)), (2, .int (s)), (3, .int (hd)), (4, .int (if s = 0 then -1 else (lkP r hd i s (10 * (k + 1))).1)), (5, .int (if s = 0 then 11 else (lkP r hd i s (10 * (k + 1))).2)), (7, .int (nI n))] := by rw [e4, e5]; exact hl
              exact ih10 (k + 1) (by omega) (by omega) _ (lv_sub hl [1, 2, 3, 4, 5, 6, 0] rfl)
            · skip
              have c2' := Int32.not_le.mp c2
              have hn9 : n < 10 := by have := lp_lt (by omega) c2; rw [show (10 : Int32).toInt = 10 from rfl] at this; omega
              refine lv_iload_n hx hb dX9_looked_27 rfl (lv_at hl 2 rfl) ?_
              refine lv_if_eq (tgt := 88) hx hb dX9_looked_28 (by decide) (fun c3 => ?_) (fun c3 => ?_)
              · skip
                have hs9 : s = 0 := c3
                refine lv_iinc (v := nI (k + 1)) (lv' := [(6, .int (nI (k + 1))), (0, .ref (o 0)), (1, .int (i)), (2, .int (s)), (3, .int (hd)), (4, .int (if s = 0 then -1 else (lkP r hd i s (10 * k + n)).1)), (5, .int (if s = 0 then 11 else (lkP r hd i s (10 * k + n)).2)), (7, .int (nI n))]) hx hb dX9_looked_88 hl (k := 6) rfl (inc_nI k) (by decide) rfl (fun ls hl => ?_)
                refine lv_goto (tgt := 10) hx hb dX9_looked_91 (by decide) ?_
                have e4 : (if s = 0 then -1 else (lkP r hd i s (10 * (k + 1))).1) = if s = 0 then -1 else (lkP r hd i s (10 * k + n)).1 := by first | (rw [if_pos hs9, if_pos hs9]) | (rw [hn9, show 10 * (k + 1) = 10 * k + 10 from by omega])
                have e5 : (if s = 0 then 11 else (lkP r hd i s (10 * (k + 1))).2) = if s = 0 then 11 else (lkP r hd i s (10 * k + n)).2 := by first | (rw [if_pos hs9, if_pos hs9]) | (rw [hn9, show 10 * (k + 1) = 10 * k + 10 from by omega])
                have hl : lv_has ls 9 [(6, .int (nI (k + 1))), (0, .ref (o 0)), (1, .int (i)), (2, .int (s)), (3, .int (hd)), (4, .int (if s = 0 then -1 else (lkP r hd i s (10 * (k + 1))).1)), (5, .int (if s = 0 then 11 else (lkP r hd i s (10 * (k + 1))).2)), (7, .int (nI n))] := by rw [e4, e5]; exact hl
                exact ih10 (k + 1) (by omega) (by omega) _ (lv_sub hl [1, 2, 3, 4, 5, 6, 0] rfl)
              · skip
                have hs9 : ¬ s = 0 := c3
                have hl : lv_has ls 9 [(0, .ref (o 0)), (1, .int (i)), (2, .int (s)), (3, .int (hd)), (4, .int ((lkP r hd i s (10 * k + n)).1)), (5, .int ((lkP r hd i s (10 * k + n)).2)), (6, .int (nI k)), (7, .int (nI n))] := by rw [if_neg hs9, if_neg hs9] at hl; exact hl
                have hd9 : (10 * k + n) / 10 = k := by omega
                have hm9 : (10 * k + n) % 10 = n := by omega
                refine lv_aload_n hx hb dX9_looked_31 rfl (lv_at hl 0 rfl) ?_
                refine lv_iload_n hx hb dX9_looked_32 rfl (lv_at hl 1 rfl) ?_
                refine lv_iload_n hx hb dX9_looked_33 rfl (lv_at hl 2 rfl) ?_
                refine lv_iload_n hx hb dX9_looked_34 rfl (lv_at hl 3 rfl) ?_
                refine lv_iload hx hb dX9_looked_35 (lv_at hl 6 rfl) ?_
                refine lv_iload hx hb dX9_looked_37 (lv_at hl 7 rfl) ?_
                refine ro_i (run_V (As := [.int (i), .int (s), .int (hd), .int (nI k), .int (nI n)]) (rest := []) hC.1 ckX9_alike (kX9_alike l g o ab be lm ra ta ti fa um ua hh r i s hd (nI k) (nI n) hi) (gw_in m_1295 rfl) (fb_ro _ _ _) (va_recv hK.1 (kP_app.mp hP).1 (q0 := 0) rfl rfl) (fun U hU hW => ⟨by rw [hU]; exact (kP_app.mpr ⟨(kP_app.mp hP).1, (kP_app.mpr ⟨(kP_app.mp (kP_app.mp hP).2).1, (kP_mem.mpr (fun _ h => absurd h List.not_mem_nil))⟩)⟩), kK_warm hW hK⟩) ⟨rfl, rfl, Nat.le_of_ble_eq_true rfl, Nat.le_of_ble_eq_true rfl⟩ rfl hl.1 rfl (Nat.le_of_ble_eq_true rfl) dX9_looked_39 ⟨Nat.le_of_ble_eq_true rfl, Nat.le_of_ble_eq_true rfl⟩) ?_
                refine lv_istore (lv' := [(8, .int (alK r hd i s (nI k) (nI n) 10)), (0, .ref (o 0)), (1, .int (i)), (2, .int (s)), (3, .int (hd)), (4, .int ((lkP r hd i s (10 * k + n)).1)), (5, .int ((lkP r hd i s (10 * k + n)).2)), (6, .int (nI k)), (7, .int (nI n))]) hx hb dX9_looked_42 hl (by decide) rfl (fun ls hl => ?_)
                refine lv_iload hx hb dX9_looked_44 (lv_at hl 0 rfl) ?_
                refine lv_iload hx hb dX9_looked_46 (lv_at hl 6 rfl) ?_
                refine lv_icmp_ge (tgt := 62) hx hb dX9_looked_48 (by decide) (fun c4 => ?_) (fun c4 => ?_)
                · skip
                  have c4' := Int32.not_lt.mpr c4
                  refine lv_iload hx hb dX9_looked_62 (lv_at hl 5 rfl) ?_
                  refine lv_istore (lv' := [(4, .int ((lkP r hd i s (10 * k + n)).1)), (8, .int (alK r hd i s (nI k) (nI n) 10)), (0, .ref (o 0)), (1, .int (i)), (2, .int (s)), (3, .int (hd)), (5, .int ((lkP r hd i s (10 * k + n)).2)), (6, .int (nI k)), (7, .int (nI n))]) hx hb dX9_looked_64 hl (by decide) rfl (fun ls hl => ?_)
                  refine lv_iload hx hb dX9_looked_66 (lv_at hl 1 rfl) ?_
                  refine lv_iload hx hb dX9_looked_68 (lv_at hl 6 rfl) ?_
                  refine lv_icmp_ge (tgt := 78) hx hb dX9_looked_70 (by decide) (fun c5 => ?_) (fun c5 => ?_)
                  · skip
                    have c5' := Int32.not_lt.mpr c5
                    refine lv_iload hx hb dX9_looked_78 (lv_at hl 6 rfl) ?_
                    refine lv_istore (lv' := [(5, .int ((lkP r hd i s (10 * k + n)).2)), (4, .int ((lkP r hd i s (10 * k + n)).1)), (8, .int (alK r hd i s (nI k) (nI n) 10)), (0, .ref (o 0)), (1, .int (i)), (2, .int (s)), (3, .int (hd)), (6, .int (nI k)), (7, .int (nI n))]) hx hb dX9_looked_80 hl (by decide) rfl (fun ls hl => ?_)
                    refine lv_iinc (v := nI (n + 1)) (lv' := [(7, .int (nI (n + 1))), (5, .int ((lkP r hd i s (10 * k + n)).2)), (4, .int ((lkP r hd i s (10 * k + n)).1)), (8, .int (alK r hd i s (nI k) (nI n) 10)), (0, .ref (o 0)), (1, .int (i)), (2, .int (s)), (3, .int (hd)), (6, .int (nI k))]) hx hb dX9_looked_82 hl (k := 8) rfl (inc_nI n) (by decide) rfl (fun ls hl => ?_)
                    refine lv_goto (tgt := 20) hx hb dX9_looked_85 (by decide) ?_
                    have e4 : (if s = 0 then -1 else (lkP r hd i s (10 * k + (n + 1))).1) = (lkP r hd i s (10 * k + n)).1 := by rw [if_neg hs9, show 10 * k + (n + 1) = (10 * k + n) + 1 from rfl, lkP_s, hd9, hm9, if_pos c4]
                    have e5 : (if s = 0 then 11 else (lkP r hd i s (10 * k + (n + 1))).2) = (lkP r hd i s (10 * k + n)).2 := by rw [if_neg hs9, show 10 * k + (n + 1) = (10 * k + n) + 1 from rfl, lkP_s, hd9, hm9, if_pos c4]
                    have hl : lv_has ls 9 [(7, .int (nI (n + 1))), (5, .int (if s = 0 then 11 else (lkP r hd i s (10 * k + (n + 1))).2)), (4, .int (if s = 0 then -1 else (lkP r hd i s (10 * k + (n + 1))).1)), (8, .int (alK r hd i s (nI k) (nI n) 10)), (0, .ref (o 0)), (1, .int (i)), (2, .int (s)), (3, .int (hd)), (6, .int (nI k))] := by rw [e4, e5]; exact hl
                    exact ih20 (n + 1) (by omega) (by omega) _ (lv_sub hl [4, 5, 6, 7, 2, 1, 8, 0] rfl)
                  · skip
                    have c5' := Int32.not_le.mp c5
                    exact absurd c4 c5
                · skip
                  have c4' := Int32.not_le.mp c4
                  refine lv_bipush (v := 10) hx hb dX9_looked_51 rfl ?_
                  refine lv_iload hx hb dX9_looked_53 (lv_at hl 7 rfl) ?_
                  refine lv_imul hx hb dX9_looked_55 ?_
                  refine top_i (x := 10 * (nI k)) (y := nI (10 * k)) (show nI 10 * nI k = _ from pk_mul 10 k) ?_
                  refine lv_iload hx hb dX9_looked_56 (lv_at hl 8 rfl) ?_
                  refine lv_iadd hx hb dX9_looked_58 ?_
                  refine top_i (x := (nI (10 * k)) + (nI n)) (y := nI (10 * k + n)) (nI_add (10 * k) n) ?_
                  refine lv_goto (tgt := 64) hx hb dX9_looked_59 (by decide) ?_
                  refine lv_istore (lv' := [(4, .int (nI (10 * k + n))), (8, .int (alK r hd i s (nI k) (nI n) 10)), (0, .ref (o 0)), (1, .int (i)), (2, .int (s)), (3, .int (hd)), (5, .int ((lkP r hd i s (10 * k + n)).2)), (6, .int (nI k)), (7, .int (nI n))]) hx hb dX9_looked_64 hl (by decide) rfl (fun ls hl => ?_)
                  refine lv_iload hx hb dX9_looked_66 (lv_at hl 1 rfl) ?_
                  refine lv_iload hx hb dX9_looked_68 (lv_at hl 6 rfl) ?_
                  refine lv_icmp_ge (tgt := 78) hx hb dX9_looked_70 (by decide) (fun c6 => ?_) (fun c6 => ?_)
                  · skip
                    have c6' := Int32.not_lt.mpr c6
                    exact absurd c6 c4
                  · skip
                    have c6' := Int32.not_le.mp c6
                    refine lv_iload hx hb dX9_looked_73 (lv_at hl 1 rfl) ?_
                    refine lv_goto (tgt := 80) hx hb dX9_looked_75 (by decide) ?_
                    refine lv_istore (lv' := [(5, .int (alK r hd i s (nI k) (nI n) 10)), (4, .int (nI (10 * k + n))), (8, .int (alK r hd i s (nI k) (nI n) 10)), (0, .ref (o 0)), (1, .int (i)), (2, .int (s)), (3, .int (hd)), (6, .int (nI k)), (7, .int (nI n))]) hx hb dX9_looked_80 hl (by decide) rfl (fun ls hl => ?_)
                    refine lv_iinc (v := nI (n + 1)) (lv' := [(7, .int (nI (n + 1))), (5, .int (alK r hd i s (nI k) (nI n) 10)), (4, .int (nI (10 * k + n))), (8, .int (alK r hd i s (nI k) (nI n) 10)), (0, .ref (o 0)), (1, .int (i)), (2, .int (s)), (3, .int (hd)), (6, .int (nI k))]) hx hb dX9_looked_82 hl (k := 8) rfl (inc_nI n) (by decide) rfl (fun ls hl => ?_)
                    refine lv_goto (tgt := 20) hx hb dX9_looked_85 (by decide) ?_
                    have e4 : (if s = 0 then -1 else (lkP r hd i s (10 * k + (n + 1))).1) = nI (10 * k + n) := by rw [if_neg hs9, show 10 * k + (n + 1) = (10 * k + n) + 1 from rfl, lkP_s, hd9, hm9, if_neg c4]
                    have e5 : (if s = 0 then 11 else (lkP r hd i s (10 * k + (n + 1))).2) = alK r hd i s (nI k) (nI n) 10 := by rw [if_neg hs9, show 10 * k + (n + 1) = (10 * k + n) + 1 from rfl, lkP_s, hd9, hm9, if_neg c4]
                    have hl : lv_has ls 9 [(7, .int (nI (n + 1))), (5, .int (if s = 0 then 11 else (lkP r hd i s (10 * k + (n + 1))).2)), (4, .int (if s = 0 then -1 else (lkP r hd i s (10 * k + (n + 1))).1)), (8, .int (alK r hd i s (nI k) (nI n) 10)), (0, .ref (o 0)), (1, .int (i)), (2, .int (s)), (3, .int (hd)), (6, .int (nI k))] := by rw [e4, e5]; exact hl
                    exact ih20 (n + 1) (by omega) (by omega) _ (lv_sub hl [4, 5, 6, 7, 2, 1, 8, 0] rfl)
        have hl : lv_has ls 9 [(7, .int (0)), (0, .ref (o 0)), (1, .int (i)), (2, .int (s)), (3, .int (hd)), (4, .int (if s = 0 then -1 else (lkP r hd i s (10 * k + 0)).1)), (5, .int (if s = 0 then 11 else (lkP r hd i s (10 * k + 0)).2)), (6, .int (nI k))] := by rw [Nat.add_zero]; exact hl
        exact cut20 _ 0 (Nat.lt_succ_self _) (by omega) _ (lv_sub hl [1, 2, 3, 4, 5, 6, 7, 0] rfl)
  have e4 : (if s = 0 then -1 else (lkP r hd i s (10 * 0)).1) = -1 := ite_self _
  have e5 : (if s = 0 then 11 else (lkP r hd i s (10 * 0)).2) = 11 := ite_self _
  have hl : lv_has ls 9 [(6, .int (0)), (5, .int (if s = 0 then 11 else (lkP r hd i s (10 * 0)).2)), (4, .int (if s = 0 then -1 else (lkP r hd i s (10 * 0)).1)), (0, .ref (o 0)), (1, .int (i)), (2, .int (s)), (3, .int (hd))] := by rw [e4, e5]; exact hl
  exact cut10 _ 0 (Nat.lt_succ_self _) (by omega) _ (lv_sub hl [3, 4, 5, 6, 2, 1, 0] rfl)
set_option maxHeartbeats 4000000 in
set_option maxRecDepth 100000 in
theorem kX9_tell (l : Launch) (g : gG) (o : Nat → Nat) (ab be : Int64) (lm ra ta : Nat) (ti fa : Int32) (um ua : Nat) (hh : Int64) (rf : Nat → Int32) (r tl : Nat → Int32) (S : Nat) (i : Int32) (hw : Wf r) (hS0 : tl 0 = nI S) (hS6 : S ≤ 5) : Met l yX9_tell (.code yX9_tell cX9_tell 2 (some .int) :: gw) (rmN 3) (va_Pc [.ref (o 0), .int (i)] (rwPre g (mO g o ab be lm ra ta ti fa um ua hh ++ (aW g (o 1) 3 rf ++ (aW g (o 2) 45 r ++ (aW g (o 5) 94 tl ++ [])))))) (rwQi g (mO g o ab be lm ra ta ti fa um ua hh ++ (aW g (o 1) 3 rf ++ (aW g (o 2) 45 r ++ (aW g (o 5) 94 tl ++ [])))) (mO g o ab be lm ra ta ti fa um ua hh ++ (aW g (o 1) 3 (if yNut r i = true then rf else upd rf 0 (rf 0 + 1)) ++ (aW g (o 2) 45 r ++ (aW g (o 5) 94 tl ++ [])))) (if yNut r i = true then (if setB (fun k => allN (fun n => !decide (tl (1 + 5 * n) = i) || decide (crk (r (15 + cl i)) (nI k) (tl (1 + 5 * n + 2)) (tl (1 + 5 * n + 3)) (tl (1 + 5 * n + 1)) = tl (1 + 5 * n + 4))) S) 10 = 0 then -1 else (lkP r 1 i (setB (fun k => allN (fun n => !decide (tl (1 + 5 * n) = i) || decide (crk (r (15 + cl i)) (nI k) (tl (1 + 5 * n + 2)) (tl (1 + 5 * n + 3)) (tl (1 + 5 * n + 1)) = tl (1 + 5 * n + 4))) S) 10) (10 * 21)).1) else -2)) 0 0 (dm (mO g o ab be lm ra ta ti fa um ua hh ++ (aW g (o 1) 3 rf ++ (aW g (o 2) 45 r ++ (aW g (o 5) 94 tl ++ []))))) := by
  refine met_start (by decide) (Nat.le_of_ble_eq_true rfl) ?_
  intro pp ee ss mm bl mt cd hC hpre ls hl
  obtain ⟨⟨hx, hb, hml, hown, hts⟩, hr, hlk, hnm⟩ := id hC
  have hl : lv_has ls 2 [(0, .ref (o 0)), (1, .int (i))] := hl
  obtain ⟨hP, hK, hD⟩ := hpre
  have hS : va_S (dm (mO g o ab be lm ra ta ti fa um ua hh ++ (aW g (o 1) 3 rf ++ (aW g (o 2) 45 r ++ (aW g (o 5) 94 tl ++ []))))) ss.heap ss.heap [] := va_S.rf
  have hD := vD_self hD
  refine lv_aload_n hx hb dX9_tell_0 rfl (lv_at hl 0 rfl) ?_
  refine kget hC.1 hK (kP_app.mp hP).1 0 rfl rfl in_9 3 (by decide) (gw_in m_963 rfl) rfl dX9_tell_1 ?_
  refine lv_iload_n hx hb dX9_tell_4 rfl (lv_at hl 1 rfl) ?_
  refine ro_i (run_S (As := [.ref (o 2), .int (i)]) (rest := []) hC.1 ckX9_isNut (kX9_isNut l g (o 2) r i hw) (gw_in m_1139 rfl) (fb_ro _ _ _) (fun U hU hW => ⟨by rw [hU]; exact (kP_app.mp (kP_app.mp (kP_app.mp hP).2).2).1, kK_warm hW hK⟩) ⟨rfl, rfl, Nat.le_of_ble_eq_true rfl, Nat.le_of_ble_eq_true rfl⟩ rfl hl.1 rfl (Nat.le_of_ble_eq_true rfl) dX9_tell_5 ⟨Nat.le_of_ble_eq_true rfl, Nat.le_of_ble_eq_true rfl⟩) ?_
  refine lv_if_eq (tgt := 25) hx hb dX9_tell_8 (by decide) (fun c1 => ?_) (fun c1 => ?_)
  · skip
    have c1 := b2i_0 c1
    refine lv_aload_n hx hb dX9_tell_25 rfl (lv_at hl 0 rfl) ?_
    refine lv_bipush (v := -2) hx hb dX9_tell_26 rfl ?_
    refine rw_i (run_V (As := [.int (-2)]) (rest := []) hC.1 ckX9_bad (kX9_bad l g o ab be lm ra ta ti fa um ua hh rf (-2)) (gw_in m_1041 rfl) (fb_rw _ _ _) (va_recv hK.1 (kP_app.mp hP).1 (q0 := 0) rfl rfl) (fun U hU hW => ⟨by rw [hU]; exact (kP_app.mpr ⟨(kP_app.mp hP).1, (kP_app.mpr ⟨(kP_app.mp (kP_app.mp hP).2).1, kP_nil⟩)⟩), kK_warm hW hK, vD_sub (sbA _ (sbA _ (sb0 _))) hD⟩) ⟨rfl, rfl, Nat.le_of_ble_eq_true rfl, Nat.le_of_ble_eq_true rfl⟩ rfl hl.1 rfl (Nat.le_of_ble_eq_true rfl) dX9_tell_28 ⟨Nat.le_of_ble_eq_true rfl, Nat.le_of_ble_eq_true rfl⟩) (adr_app rfl (adr_app aW_adr rfl)) (asc2 _ _ _) (ww' := mO g o ab be lm ra ta ti fa um ua hh ++ (aW g (o 1) 3 (upd rf 0 (rf 0 + 1)) ++ (aW g (o 2) 45 r ++ (aW g (o 5) 94 tl ++ [])))) (asc2 _ _ _) hP hD hS (fun H locs hP hD hS => ?_)
    exact ret_rwi hx hb hr hlk (by rw [if_neg (by rw [c1]; decide)]) (kP_eq (by rw [if_neg (by rw [c1]; decide)]) hP) hS dX9_tell_31
  · skip
    have c1 := b2i_1 c1
    refine lv_aload_n hx hb dX9_tell_11 rfl (lv_at hl 0 rfl) ?_
    refine lv_iload_n hx hb dX9_tell_12 rfl (lv_at hl 1 rfl) ?_
    refine lv_aload_n hx hb dX9_tell_13 rfl (lv_at hl 0 rfl) ?_
    refine lv_iload_n hx hb dX9_tell_14 rfl (lv_at hl 1 rfl) ?_
    refine ro_i (run_V (As := [.int (i)]) (rest := [.int (i), .ref (o 0)]) hC.1 ckX9_hardsOf (kX9_hardsOf l g o ab be lm ra ta ti fa um ua hh r tl S i hw hS0 hS6 (yNut_in c1 hw.n6)) (gw_in m_1283 rfl) (fb_ro _ _ _) (va_recv hK.1 (kP_app.mp hP).1 (q0 := 0) rfl rfl) (fun U hU hW => ⟨by rw [hU]; exact (kP_app.mpr ⟨(kP_app.mp hP).1, (kP_app.mpr ⟨(kP_app.mp (kP_app.mp (kP_app.mp hP).2).2).1, (kP_app.mpr ⟨(kP_app.mp (kP_app.mp (kP_app.mp (kP_app.mp hP).2).2).2).1, (kP_mem.mpr (fun _ h => absurd h List.not_mem_nil))⟩)⟩)⟩), kK_warm hW hK⟩) ⟨rfl, rfl, Nat.le_of_ble_eq_true rfl, Nat.le_of_ble_eq_true rfl⟩ rfl hl.1 rfl (Nat.le_of_ble_eq_true rfl) dX9_tell_15 ⟨Nat.le_of_ble_eq_true rfl, Nat.le_of_ble_eq_true rfl⟩) ?_
    refine lv_iconst (v := 1) hx hb dX9_tell_18 rfl ?_
    refine ro_i (run_V (As := [.int (i), .int (setB (fun k => allN (fun n => !decide (tl (1 + 5 * n) = i) || decide (crk (r (15 + cl i)) (nI k) (tl (1 + 5 * n + 2)) (tl (1 + 5 * n + 3)) (tl (1 + 5 * n + 1)) = tl (1 + 5 * n + 4))) S) 10), .int (1)]) (rest := []) hC.1 ckX9_looked (kX9_looked l g o ab be lm ra ta ti fa um ua hh r i (setB (fun k => allN (fun n => !decide (tl (1 + 5 * n) = i) || decide (crk (r (15 + cl i)) (nI k) (tl (1 + 5 * n + 2)) (tl (1 + 5 * n + 3)) (tl (1 + 5 * n + 1)) = tl (1 + 5 * n + 4))) S) 10) 1 (yNut_in c1 hw.n6)) (gw_in m_1291 rfl) (fb_ro _ _ _) (va_recv hK.1 (kP_app.mp hP).1 (q0 := 0) rfl rfl) (fun U hU hW => ⟨by rw [hU]; exact (kP_app.mpr ⟨(kP_app.mp hP).1, (kP_app.mpr ⟨(kP_app.mp (kP_app.mp (kP_app.mp hP).2).2).1, (kP_mem.mpr (fun _ h => absurd h List.not_mem_nil))⟩)⟩), kK_warm hW hK⟩) ⟨rfl, rfl, Nat.le_of_ble_eq_true rfl, Nat.le_of_ble_eq_true rfl⟩ rfl hl.1 rfl (Nat.le_of_ble_eq_true rfl) dX9_tell_19 ⟨Nat.le_of_ble_eq_true rfl, Nat.le_of_ble_eq_true rfl⟩) ?_
    refine lv_goto (tgt := 31) hx hb dX9_tell_22 (by decide) ?_
    exact ret_rwi hx hb hr hlk (by rw [if_pos c1]) (kP_eq (by rw [if_pos c1]) hP) hS dX9_tell_31
set_option maxHeartbeats 4000000 in
set_option maxRecDepth 100000 in
theorem kX9_look (l : Launch) (g : gG) (o : Nat → Nat) (ab be : Int64) (lm ra ta : Nat) (ti fa : Int32) (um ua : Nat) (hh : Int64) (rf : Nat → Int32) (r tl : Nat → Int32) (S : Nat) (i : Int32) (hw : Wf r) (hS0 : tl 26 = nI S) (hS6 : S ≤ 6) : Met l yX9_look (.code yX9_look cX9_look 2 (some .int) :: gw) (rmN 3) (va_Pc [.ref (o 0), .int (i)] (rwPre g (mO g o ab be lm ra ta ti fa um ua hh ++ (aW g (o 1) 3 rf ++ (aW g (o 2) 45 r ++ (aW g (o 5) 94 tl ++ [])))))) (rwQi g (mO g o ab be lm ra ta ti fa um ua hh ++ (aW g (o 1) 3 rf ++ (aW g (o 2) 45 r ++ (aW g (o 5) 94 tl ++ [])))) (mO g o ab be lm ra ta ti fa um ua hh ++ (aW g (o 1) 3 (if yNut r i = true then rf else upd rf 0 (rf 0 + 1)) ++ (aW g (o 2) 45 r ++ (aW g (o 5) 94 tl ++ [])))) (if yNut r i = true then (if setB (fun k => allN (fun n => !decide (tl (27 + 6 * n) = i) || decide (crk (nI k) (tl (27 + 6 * n + 1)) (tl (27 + 6 * n + 3)) (tl (27 + 6 * n + 4)) (tl (27 + 6 * n + 2)) = tl (27 + 6 * n + 5))) S) 6 = 0 then -1 else (lkP r 0 i (setB (fun k => allN (fun n => !decide (tl (27 + 6 * n) = i) || decide (crk (nI k) (tl (27 + 6 * n + 1)) (tl (27 + 6 * n + 3)) (tl (27 + 6 * n + 4)) (tl (27 + 6 * n + 2)) = tl (27 + 6 * n + 5))) S) 6) (10 * 21)).1) else -2)) 0 0 (dm (mO g o ab be lm ra ta ti fa um ua hh ++ (aW g (o 1) 3 rf ++ (aW g (o 2) 45 r ++ (aW g (o 5) 94 tl ++ []))))) := by
  refine met_start (by decide) (Nat.le_of_ble_eq_true rfl) ?_
  intro pp ee ss mm bl mt cd hC hpre ls hl
  obtain ⟨⟨hx, hb, hml, hown, hts⟩, hr, hlk, hnm⟩ := id hC
  have hl : lv_has ls 2 [(0, .ref (o 0)), (1, .int (i))] := hl
  obtain ⟨hP, hK, hD⟩ := hpre
  have hS : va_S (dm (mO g o ab be lm ra ta ti fa um ua hh ++ (aW g (o 1) 3 rf ++ (aW g (o 2) 45 r ++ (aW g (o 5) 94 tl ++ []))))) ss.heap ss.heap [] := va_S.rf
  have hD := vD_self hD
  refine lv_aload_n hx hb dX9_look_0 rfl (lv_at hl 0 rfl) ?_
  refine kget hC.1 hK (kP_app.mp hP).1 0 rfl rfl in_9 3 (by decide) (gw_in m_963 rfl) rfl dX9_look_1 ?_
  refine lv_iload_n hx hb dX9_look_4 rfl (lv_at hl 1 rfl) ?_
  refine ro_i (run_S (As := [.ref (o 2), .int (i)]) (rest := []) hC.1 ckX9_isNut (kX9_isNut l g (o 2) r i hw) (gw_in m_1139 rfl) (fb_ro _ _ _) (fun U hU hW => ⟨by rw [hU]; exact (kP_app.mp (kP_app.mp (kP_app.mp hP).2).2).1, kK_warm hW hK⟩) ⟨rfl, rfl, Nat.le_of_ble_eq_true rfl, Nat.le_of_ble_eq_true rfl⟩ rfl hl.1 rfl (Nat.le_of_ble_eq_true rfl) dX9_look_5 ⟨Nat.le_of_ble_eq_true rfl, Nat.le_of_ble_eq_true rfl⟩) ?_
  refine lv_if_eq (tgt := 25) hx hb dX9_look_8 (by decide) (fun c1 => ?_) (fun c1 => ?_)
  · skip
    have c1 := b2i_0 c1
    refine lv_aload_n hx hb dX9_look_25 rfl (lv_at hl 0 rfl) ?_
    refine lv_bipush (v := -2) hx hb dX9_look_26 rfl ?_
    refine rw_i (run_V (As := [.int (-2)]) (rest := []) hC.1 ckX9_bad (kX9_bad l g o ab be lm ra ta ti fa um ua hh rf (-2)) (gw_in m_1041 rfl) (fb_rw _ _ _) (va_recv hK.1 (kP_app.mp hP).1 (q0 := 0) rfl rfl) (fun U hU hW => ⟨by rw [hU]; exact (kP_app.mpr ⟨(kP_app.mp hP).1, (kP_app.mpr ⟨(kP_app.mp (kP_app.mp hP).2).1, kP_nil⟩)⟩), kK_warm hW hK, vD_sub (sbA _ (sbA _ (sb0 _))) hD⟩) ⟨rfl, rfl, Nat.le_of_ble_eq_true rfl, Nat.le_of_ble_eq_true rfl⟩ rfl hl.1 rfl (Nat.le_of_ble_eq_true rfl) dX9_look_28 ⟨Nat.le_of_ble_eq_true rfl, Nat.le_of_ble_eq_true rfl⟩) (adr_app rfl (adr_app aW_adr rfl)) (asc2 _ _ _) (ww' := mO g o ab be lm ra ta ti fa um ua hh ++ (aW g (o 1) 3 (upd rf 0 (rf 0 + 1)) ++ (aW g (o 2) 45 r ++ (aW g (o 5) 94 tl ++ [])))) (asc2 _ _ _) hP hD hS (fun H locs hP hD hS => ?_)
    exact ret_rwi hx hb hr hlk (by rw [if_neg (by rw [c1]; decide)]) (kP_eq (by rw [if_neg (by rw [c1]; decide)]) hP) hS dX9_look_31
  · skip
    have c1 := b2i_1 c1
    refine lv_aload_n hx hb dX9_look_11 rfl (lv_at hl 0 rfl) ?_
    refine lv_iload_n hx hb dX9_look_12 rfl (lv_at hl 1 rfl) ?_
    refine lv_aload_n hx hb dX9_look_13 rfl (lv_at hl 0 rfl) ?_
    refine lv_iload_n hx hb dX9_look_14 rfl (lv_at hl 1 rfl) ?_
    refine ro_i (run_V (As := [.int (i)]) (rest := [.int (i), .ref (o 0)]) hC.1 ckX9_kindsOf (kX9_kindsOf l g o ab be lm ra ta ti fa um ua hh r tl S i hw hS0 hS6) (gw_in m_1307 rfl) (fb_ro _ _ _) (va_recv hK.1 (kP_app.mp hP).1 (q0 := 0) rfl rfl) (fun U hU hW => ⟨by rw [hU]; exact (kP_app.mpr ⟨(kP_app.mp hP).1, (kP_app.mpr ⟨(kP_app.mp (kP_app.mp (kP_app.mp hP).2).2).1, (kP_app.mpr ⟨(kP_app.mp (kP_app.mp (kP_app.mp (kP_app.mp hP).2).2).2).1, (kP_mem.mpr (fun _ h => absurd h List.not_mem_nil))⟩)⟩)⟩), kK_warm hW hK⟩) ⟨rfl, rfl, Nat.le_of_ble_eq_true rfl, Nat.le_of_ble_eq_true rfl⟩ rfl hl.1 rfl (Nat.le_of_ble_eq_true rfl) dX9_look_15 ⟨Nat.le_of_ble_eq_true rfl, Nat.le_of_ble_eq_true rfl⟩) ?_
    refine lv_iconst (v := 0) hx hb dX9_look_18 rfl ?_
    refine ro_i (run_V (As := [.int (i), .int (setB (fun k => allN (fun n => !decide (tl (27 + 6 * n) = i) || decide (crk (nI k) (tl (27 + 6 * n + 1)) (tl (27 + 6 * n + 3)) (tl (27 + 6 * n + 4)) (tl (27 + 6 * n + 2)) = tl (27 + 6 * n + 5))) S) 6), .int (0)]) (rest := []) hC.1 ckX9_looked (kX9_looked l g o ab be lm ra ta ti fa um ua hh r i (setB (fun k => allN (fun n => !decide (tl (27 + 6 * n) = i) || decide (crk (nI k) (tl (27 + 6 * n + 1)) (tl (27 + 6 * n + 3)) (tl (27 + 6 * n + 4)) (tl (27 + 6 * n + 2)) = tl (27 + 6 * n + 5))) S) 6) 0 (yNut_in c1 hw.n6)) (gw_in m_1291 rfl) (fb_ro _ _ _) (va_recv hK.1 (kP_app.mp hP).1 (q0 := 0) rfl rfl) (fun U hU hW => ⟨by rw [hU]; exact (kP_app.mpr ⟨(kP_app.mp hP).1, (kP_app.mpr ⟨(kP_app.mp (kP_app.mp (kP_app.mp hP).2).2).1, (kP_mem.mpr (fun _ h => absurd h List.not_mem_nil))⟩)⟩), kK_warm hW hK⟩) ⟨rfl, rfl, Nat.le_of_ble_eq_true rfl, Nat.le_of_ble_eq_true rfl⟩ rfl hl.1 rfl (Nat.le_of_ble_eq_true rfl) dX9_look_19 ⟨Nat.le_of_ble_eq_true rfl, Nat.le_of_ble_eq_true rfl⟩) ?_
    refine lv_goto (tgt := 31) hx hb dX9_look_22 (by decide) ?_
    exact ret_rwi hx hb hr hlk (by rw [if_pos c1]) (kP_eq (by rw [if_pos c1]) hP) hS dX9_look_31
