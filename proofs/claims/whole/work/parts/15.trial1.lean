theorem ckX6_fight : ckS yX6_fight cX6_fight 7 (some .int) 4 := ⟨(gw_in m_650 rfl), (gw_in m_69 rfl), (gw_in m_649 rfl), by decide +kernel, by decide +kernel, by decide +kernel⟩
theorem ckX6_fightOn : ckV yX6_fightOn cX6_fightOn 5 (some .int) 4 := ⟨(gw_in m_646 rfl), (gw_in m_69 rfl), ⟨(gw_in m_644 rfl), (gw_in m_645 rfl)⟩, by decide +kernel, by decide +kernel, by decide +kernel⟩
/-- a fight: who strikes next, whether it can be, what comes of it -/
def fgk (b : Bool) (n : Nat) : Bool := b && decide (n % 2 = 1)
def fgc (b : Bool) (i j : Int32) (n : Nat) (r : Nat → Int32) : Bool := if fgk b n = true then yCan r j i else yCan r i j
def fgs (b : Bool) (i j : Int32) (n : Nat) (r : Nat → Int32) : Nat → Int32 := if fgk b n = true then stk r j i else stk r i j
def fgt (b : Bool) (i j : Int32) : Nat → Nat → (Nat → Int32) → Int32 × (Nat → Int32)
  | 0, _, r => (-1, r)
  | m + 1, n, r => if fgc b i j n r = true then (if yBrk (fgs b i j n r) i = true ∨ yBrk (fgs b i j n r) j = true then (nI (n + 1), fgs b i j n r) else fgt b i j m (n + 1) (fgs b i j n r)) else (-1, r)
theorem Wf_fgs {b : Bool} {i j : Int32} {n : Nat} {r : Nat → Int32} (h : Wf r) (hc : fgc b i j n r = true) : Wf (fgs b i j n r) := by
  unfold fgc at hc
  unfold fgs
  by_cases hk : fgk b n = true
  · rw [if_pos hk] at hc ⊢; exact Wf_stk h (yCan_nut hc).1 (yCan_nut hc).2
  · rw [if_neg hk] at hc ⊢; exact Wf_stk h (yCan_nut hc).1 (yCan_nut hc).2
theorem fgt_hit {b : Bool} {i j : Int32} {n : Nat} {r : Nat → Int32} (hn : n < 60) (hc : fgc b i j n r = true) (hb : yBrk (fgs b i j n r) i = true ∨ yBrk (fgs b i j n r) j = true) : fgt b i j (60 - n) n r = (nI (n + 1), fgs b i j n r) := by
  rw [show 60 - n = (59 - n) + 1 by omega]
  show (if _ then _ else _) = _
  rw [if_pos hc, if_pos hb]
theorem fgt_no {b : Bool} {i j : Int32} {n : Nat} {r : Nat → Int32} (hn : n < 60) (hc : fgc b i j n r = false) : fgt b i j (60 - n) n r = (-1, r) := by
  rw [show 60 - n = (59 - n) + 1 by omega]
  show (if _ then _ else _) = _
  rw [if_neg (by rw [hc]; decide)]
theorem fgt_go {b : Bool} {i j : Int32} {n : Nat} {r : Nat → Int32} (hn : n < 60) (hc : fgc b i j n r = true) (hi : yBrk (fgs b i j n r) i = false) (hj : yBrk (fgs b i j n r) j = false) : fgt b i j (60 - n) n r = fgt b i j (60 - (n + 1)) (n + 1) (fgs b i j n r) := by
  rw [show 60 - n = (60 - (n + 1)) + 1 by omega]
  show (if _ then _ else _) = _
  rw [if_pos hc, if_neg (by rw [hi, hj]; decide)]
theorem fgt_end {b : Bool} {i j : Int32} {n : Nat} {r : Nat → Int32} (hn : 60 ≤ n) : fgt b i j (60 - n) n r = (-1, r) := by
  rw [show 60 - n = 0 by omega]; rfl
set_option maxHeartbeats 4000000 in
set_option maxRecDepth 100000 in
theorem kX6_fight (l : Launch) (g : gG) (a : Nat → Nat) (r : Nat → Int32) (i j : Int32) (b : Bool) (hw : Wf r) : Met l yX6_fight (.code yX6_fight cX6_fight 7 (some .int) :: gw) (rmN 4) (va_Pc [.ref (a 0), .int (i), .int (j), .int (b2i b)] (rwPre g (yW g a r ++ []))) (rwQi g (yW g a r ++ []) (yW g a (fgt b i j 60 0 r).2 ++ []) (fgt b i j 60 0 r).1) 0 0 (dm (yW g a r ++ [])) := by
  refine met_start (by decide) (Nat.le_of_ble_eq_true rfl) ?_
  intro pp ee ss mm bl mt cd hC hpre ls hl
  obtain ⟨⟨hx, hb, hml, hown, hts⟩, hr, hlk, hnm⟩ := id hC
  have hl : lv_has ls 7 [(0, .ref (a 0)), (1, .int (i)), (2, .int (j)), (3, .int (b2i b))] := hl
  obtain ⟨hP, hK, hD⟩ := hpre
  have hS : va_S (dm (yW g a r ++ [])) ss.heap ss.heap [] := va_S.rf
  have hD := vD_self hD
  refine lv_iconst (v := 1) hx hb dX6_fight_0 rfl ?_
  refine lv_istore (lv' := [(4, .int (1)), (0, .ref (a 0)), (1, .int (i)), (2, .int (j)), (3, .int (b2i b))]) hx hb dX6_fight_1 hl (by decide) rfl (fun ls hl => ?_)
  have cut3 : ∀ kk : Nat, ∀ (n : Nat) (q : Nat → Int32), 61 - n < kk → (hn : n ≤ 60) → (hwq : Wf q) → (he : fgt b i j (60 - n) n q = fgt b i j 60 0 r) → ∀ (H : Heap) (locs : List Loc), kP g (yW g a q ++ []) H → va_D (dm (yW g a r ++ [])) (yW g a q ++ []) → va_S (dm (yW g a r ++ [])) ss.heap H locs → ∀ (ls : Array Slot), lv_has ls 7 [(0, .ref (a 0)), (1, .int (i)), (2, .int (j)), (3, .int (b2i b)), (4, .int (nI (n + 1)))] → W pp l ee (rmN 4) ss mm ([.ref (a 0), .int (i), .int (j), .int (b2i b)] : List Value).toArray bl mt cd H locs 0 0 (MQ bl (rwQi g (yW g a r ++ []) (yW g a (fgt b i j 60 0 r).2 ++ []) (fgt b i j 60 0 r).1) ([.ref (a 0), .int (i), .int (j), .int (b2i b)] : List Value).toArray ss 0 0 (dm (yW g a r ++ []))) (F0 mm 3 ls []) := by
    intro kk
    induction kk with
    | zero => intro n q hmu; exact absurd hmu (Nat.not_lt_zero _)
    | succ kk ih3 =>
      intro n q hmu hn hwq he H locs hP hD hS ls hl
      refine lv_iload hx hb dX6_fight_3 (lv_at hl 4 rfl) ?_
      refine lv_bipush (v := 60) hx hb dX6_fight_5 rfl ?_
      refine lv_icmp_gt (tgt := 82) hx hb dX6_fight_7 (by decide) (fun c1 => ?_) (fun c1 => ?_)
      · skip
        have c1' := Int32.not_le.mpr c1
        have hn6 : ¬ n < 60 := by rw [Int32.lt_iff_toInt_lt, nI_ti (by omega), show (60 : Int32).toInt = 60 from rfl] at c1; omega
        refine lv_iconst (v := -1) hx hb dX6_fight_82 rfl ?_
        exact ret_rwi hx hb hr hlk (by rw [← he, fgt_end (by omega)]) (by rw [← he, fgt_end (by omega)]; exact hP) hS dX6_fight_83
      · skip
        have c1' := Int32.not_lt.mp c1
        have hn6 : n < 60 := by rw [Int32.lt_iff_toInt_lt, nI_ti (by omega), show (60 : Int32).toInt = 60 from rfl] at c1; omega
        refine lv_iload_n hx hb dX6_fight_10 rfl (lv_at hl 3 rfl) ?_
        refine lv_if_eq (tgt := 25) hx hb dX6_fight_11 (by decide) (fun c2 => ?_) (fun c2 => ?_)
        · skip
          have c2 := b2i_0 c2
          refine lv_iconst (v := 0) hx hb dX6_fight_25 rfl ?_
          refine lv_istore (lv' := [(5, .int (0)), (0, .ref (a 0)), (1, .int (i)), (2, .int (j)), (3, .int (b2i b)), (4, .int (nI (n + 1)))]) hx hb dX6_fight_26 hl (by decide) rfl (fun ls hl => ?_)
          have hk : fgk b n = false := by simp [fgk, c2]
          refine lv_iload hx hb dX6_fight_28 (lv_at hl 0 rfl) ?_
          refine lv_if_eq (tgt := 42) hx hb dX6_fight_30 (by decide) (fun c3 => ?_) (fun c3 => ?_)
          · skip
            refine lv_aload_n hx hb dX6_fight_42 rfl (lv_at hl 1 rfl) ?_
            refine lv_iload_n hx hb dX6_fight_43 rfl (lv_at hl 2 rfl) ?_
            refine lv_iload_n hx hb dX6_fight_44 rfl (lv_at hl 3 rfl) ?_
            refine rw_i (run_V (As := [.int (i), .int (j)]) (rest := []) hC.1 ckX7_strike (kX7_strike l g a q i j hwq) (gw_in m_651 rfl) (fb_rw _ _ _) (va_recv hK.1 (kP_app.mp hP).1 (q0 := 0) rfl rfl) (fun U hU hW => ⟨by rw [hU]; exact (kP_app.mpr ⟨(kP_app.mp hP).1, kP_nil⟩), kK_warm hW hK, vD_sub (sbA _ (sb0 _)) hD⟩) ⟨rfl, rfl, Nat.le_of_ble_eq_true rfl, Nat.le_of_ble_eq_true rfl⟩ rfl hl.1 rfl (Nat.le_of_ble_eq_true rfl) dX6_fight_45 ⟨Nat.le_of_ble_eq_true rfl, Nat.le_of_ble_eq_true rfl⟩) (adr_app yW_adr rfl) (asc1 _ _) (ww' := yW g a (if yCan q i j = true then stk q i j else q) ++ []) (asc1 _ _) hP hD hS (fun H locs hP hD hS => ?_)
            refine lv_istore (lv' := [(6, .int (b2i (yCan q i j))), (5, .int (0)), (0, .ref (a 0)), (1, .int (i)), (2, .int (j)), (3, .int (b2i b)), (4, .int (nI (n + 1)))]) hx hb dX6_fight_48 hl (by decide) rfl (fun ls hl => ?_)
            refine lv_iload hx hb dX6_fight_50 (lv_at hl 0 rfl) ?_
            refine lv_if_ne (tgt := 57) hx hb dX6_fight_52 (by decide) (fun c4 => ?_) (fun c4 => ?_)
            · skip
              have c4 := b2i_1 c4
              have hcc : fgc b i j n q = true := by unfold fgc; rw [if_neg (by rw [hk]; decide)]; exact c4
              rw [show (if yCan q i j = true then stk q i j else q) = fgs b i j n q from by rw [if_pos c4]; unfold fgs; rw [if_neg (by rw [hk]; decide)]] at hP hD
              have hws : Wf (fgs b i j n q) := Wf_fgs hwq hcc
              refine lv_aload_n hx hb dX6_fight_57 rfl (lv_at hl 2 rfl) ?_
              refine lv_iload_n hx hb dX6_fight_58 rfl (lv_at hl 3 rfl) ?_
              refine ro_i (run_V (As := [.int (i)]) (rest := []) hC.1 ckX7_isBroken (kX7_isBroken l g a (fgs b i j n q) i hws.n6) (gw_in m_652 rfl) (fb_ro _ _ _) (va_recv hK.1 (kP_app.mp hP).1 (q0 := 0) rfl rfl) (fun U hU hW => ⟨by rw [hU]; exact (kP_app.mp hP).1, kK_warm hW hK⟩) ⟨rfl, rfl, Nat.le_of_ble_eq_true rfl, Nat.le_of_ble_eq_true rfl⟩ rfl hl.1 rfl (Nat.le_of_ble_eq_true rfl) dX6_fight_59 ⟨Nat.le_of_ble_eq_true rfl, Nat.le_of_ble_eq_true rfl⟩) ?_
              refine lv_if_ne (tgt := 73) hx hb dX6_fight_62 (by decide) (fun c5 => ?_) (fun c5 => ?_)
              · skip
                have c5 := b2i_1 c5
                have hbb : yBrk (fgs b i j n q) i = true ∨ yBrk (fgs b i j n q) j = true := Or.inl c5
                refine lv_iload hx hb dX6_fight_73 (lv_at hl 6 rfl) ?_
                exact ret_rwi hx hb hr hlk (by rw [← he, fgt_hit hn6 hcc hbb]) (by rw [← he, fgt_hit hn6 hcc hbb]; exact hP) hS dX6_fight_75
              · skip
                have c5 := b2i_0 c5
                have hbi := c5
                refine lv_aload_n hx hb dX6_fight_65 rfl (lv_at hl 2 rfl) ?_
                refine lv_iload_n hx hb dX6_fight_66 rfl (lv_at hl 4 rfl) ?_
                refine ro_i (run_V (As := [.int (j)]) (rest := []) hC.1 ckX7_isBroken (kX7_isBroken l g a (fgs b i j n q) j hws.n6) (gw_in m_652 rfl) (fb_ro _ _ _) (va_recv hK.1 (kP_app.mp hP).1 (q0 := 0) rfl rfl) (fun U hU hW => ⟨by rw [hU]; exact (kP_app.mp hP).1, kK_warm hW hK⟩) ⟨rfl, rfl, Nat.le_of_ble_eq_true rfl, Nat.le_of_ble_eq_true rfl⟩ rfl hl.1 rfl (Nat.le_of_ble_eq_true rfl) dX6_fight_67 ⟨Nat.le_of_ble_eq_true rfl, Nat.le_of_ble_eq_true rfl⟩) ?_
                refine lv_if_eq (tgt := 76) hx hb dX6_fight_70 (by decide) (fun c6 => ?_) (fun c6 => ?_)
                · skip
                  have c6 := b2i_0 c6
                  have hbj := c6
                  refine lv_iinc (v := nI (n + 1 + 1)) (lv' := [(4, .int (nI (n + 1 + 1))), (6, .int (b2i (yCan q i j))), (5, .int (0)), (0, .ref (a 0)), (1, .int (i)), (2, .int (j)), (3, .int (b2i b))]) hx hb dX6_fight_76 hl (k := 6) rfl (inc_nI (n + 1)) (by decide) rfl (fun ls hl => ?_)
                  refine lv_goto (tgt := 3) hx hb dX6_fight_79 (by decide) ?_
                  exact ih3 (n + 1) (fgs b i j n q) (by omega) (by omega) hws ((fgt_go hn6 hcc hbi hbj).symm.trans he) _ _ hP hD hS _ (lv_sub hl [3, 4, 5, 6, 0] rfl)
                · skip
                  have c6 := b2i_1 c6
                  have hbb : yBrk (fgs b i j n q) i = true ∨ yBrk (fgs b i j n q) j = true := Or.inr c6
                  refine lv_iload hx hb dX6_fight_73 (lv_at hl 6 rfl) ?_
                  exact ret_rwi hx hb hr hlk (by rw [← he, fgt_hit hn6 hcc hbb]) (by rw [← he, fgt_hit hn6 hcc hbb]; exact hP) hS dX6_fight_75
            · skip
              have c4 := b2i_0 c4
              have hcn : fgc b i j n q = false := by unfold fgc; rw [if_neg (by rw [hk]; decide)]; exact c4
              rw [show (if yCan q i j = true then stk q i j else q) = q from if_neg (by rw [c4]; decide)] at hP hD
              refine lv_iconst (v := -1) hx hb dX6_fight_55 rfl ?_
              exact ret_rwi hx hb hr hlk (by rw [← he, fgt_no (by omega) hcn]) (by rw [← he, fgt_no (by omega) hcn]; exact hP) hS dX6_fight_56
          · skip
            exact absurd c3 (by decide)
        · skip
          have c2 := b2i_1 c2
          refine lv_iload hx hb dX6_fight_14 (lv_at hl 4 rfl) ?_
          refine lv_iconst (v := 2) hx hb dX6_fight_16 rfl ?_
          refine lv_irem hx hb dX6_fight_17 (by decide) ?_
          refine top_i (x := (nI (n + 1)) - (nI (n + 1)) / 2 * 2) (y := nI ((n + 1) % 2)) (pk_rem (d := 2) (by omega) (by omega) (by omega)) ?_
          refine lv_if_ne (tgt := 25) hx hb dX6_fight_18 (by decide) (fun c7 => ?_) (fun c7 => ?_)
          · skip
            have hpar : ¬ n % 2 = 1 := by rw [show (0 : Int32) = nI 0 from rfl, nI_eq (by omega) (by omega)] at c7; omega
            refine lv_iconst (v := 0) hx hb dX6_fight_25 rfl ?_
            refine lv_istore (lv' := [(5, .int (0)), (0, .ref (a 0)), (1, .int (i)), (2, .int (j)), (3, .int (b2i b)), (4, .int (nI (n + 1)))]) hx hb dX6_fight_26 hl (by decide) rfl (fun ls hl => ?_)
            have hk : fgk b n = false := by simp [fgk, c2, hpar]
            refine lv_iload hx hb dX6_fight_28 (lv_at hl 0 rfl) ?_
            refine lv_if_eq (tgt := 42) hx hb dX6_fight_30 (by decide) (fun c8 => ?_) (fun c8 => ?_)
            · skip
              refine lv_aload_n hx hb dX6_fight_42 rfl (lv_at hl 1 rfl) ?_
              refine lv_iload_n hx hb dX6_fight_43 rfl (lv_at hl 2 rfl) ?_
              refine lv_iload_n hx hb dX6_fight_44 rfl (lv_at hl 3 rfl) ?_
              refine rw_i (run_V (As := [.int (i), .int (j)]) (rest := []) hC.1 ckX7_strike (kX7_strike l g a q i j hwq) (gw_in m_651 rfl) (fb_rw _ _ _) (va_recv hK.1 (kP_app.mp hP).1 (q0 := 0) rfl rfl) (fun U hU hW => ⟨by rw [hU]; exact (kP_app.mpr ⟨(kP_app.mp hP).1, kP_nil⟩), kK_warm hW hK, vD_sub (sbA _ (sb0 _)) hD⟩) ⟨rfl, rfl, Nat.le_of_ble_eq_true rfl, Nat.le_of_ble_eq_true rfl⟩ rfl hl.1 rfl (Nat.le_of_ble_eq_true rfl) dX6_fight_45 ⟨Nat.le_of_ble_eq_true rfl, Nat.le_of_ble_eq_true rfl⟩) (adr_app yW_adr rfl) (asc1 _ _) (ww' := yW g a (if yCan q i j = true then stk q i j else q) ++ []) (asc1 _ _) hP hD hS (fun H locs hP hD hS => ?_)
              refine lv_istore (lv' := [(6, .int (b2i (yCan q i j))), (5, .int (0)), (0, .ref (a 0)), (1, .int (i)), (2, .int (j)), (3, .int (b2i b)), (4, .int (nI (n + 1)))]) hx hb dX6_fight_48 hl (by decide) rfl (fun ls hl => ?_)
              refine lv_iload hx hb dX6_fight_50 (lv_at hl 0 rfl) ?_
              refine lv_if_ne (tgt := 57) hx hb dX6_fight_52 (by decide) (fun c9 => ?_) (fun c9 => ?_)
              · skip
                have c9 := b2i_1 c9
                have hcc : fgc b i j n q = true := by unfold fgc; rw [if_neg (by rw [hk]; decide)]; exact c9
                rw [show (if yCan q i j = true then stk q i j else q) = fgs b i j n q from by rw [if_pos c9]; unfold fgs; rw [if_neg (by rw [hk]; decide)]] at hP hD
                have hws : Wf (fgs b i j n q) := Wf_fgs hwq hcc
                refine lv_aload_n hx hb dX6_fight_57 rfl (lv_at hl 2 rfl) ?_
                refine lv_iload_n hx hb dX6_fight_58 rfl (lv_at hl 3 rfl) ?_
                refine ro_i (run_V (As := [.int (i)]) (rest := []) hC.1 ckX7_isBroken (kX7_isBroken l g a (fgs b i j n q) i hws.n6) (gw_in m_652 rfl) (fb_ro _ _ _) (va_recv hK.1 (kP_app.mp hP).1 (q0 := 0) rfl rfl) (fun U hU hW => ⟨by rw [hU]; exact (kP_app.mp hP).1, kK_warm hW hK⟩) ⟨rfl, rfl, Nat.le_of_ble_eq_true rfl, Nat.le_of_ble_eq_true rfl⟩ rfl hl.1 rfl (Nat.le_of_ble_eq_true rfl) dX6_fight_59 ⟨Nat.le_of_ble_eq_true rfl, Nat.le_of_ble_eq_true rfl⟩) ?_
                refine lv_if_ne (tgt := 73) hx hb dX6_fight_62 (by decide) (fun c10 => ?_) (fun c10 => ?_)
                · skip
                  have c10 := b2i_1 c10
                  have hbb : yBrk (fgs b i j n q) i = true ∨ yBrk (fgs b i j n q) j = true := Or.inl c10
                  refine lv_iload hx hb dX6_fight_73 (lv_at hl 6 rfl) ?_
                  exact ret_rwi hx hb hr hlk (by rw [← he, fgt_hit hn6 hcc hbb]) (by rw [← he, fgt_hit hn6 hcc hbb]; exact hP) hS dX6_fight_75
                · skip
                  have c10 := b2i_0 c10
                  have hbi := c10
                  refine lv_aload_n hx hb dX6_fight_65 rfl (lv_at hl 2 rfl) ?_
                  refine lv_iload_n hx hb dX6_fight_66 rfl (lv_at hl 4 rfl) ?_
                  refine ro_i (run_V (As := [.int (j)]) (rest := []) hC.1 ckX7_isBroken (kX7_isBroken l g a (fgs b i j n q) j hws.n6) (gw_in m_652 rfl) (fb_ro _ _ _) (va_recv hK.1 (kP_app.mp hP).1 (q0 := 0) rfl rfl) (fun U hU hW => ⟨by rw [hU]; exact (kP_app.mp hP).1, kK_warm hW hK⟩) ⟨rfl, rfl, Nat.le_of_ble_eq_true rfl, Nat.le_of_ble_eq_true rfl⟩ rfl hl.1 rfl (Nat.le_of_ble_eq_true rfl) dX6_fight_67 ⟨Nat.le_of_ble_eq_true rfl, Nat.le_of_ble_eq_true rfl⟩) ?_
                  refine lv_if_eq (tgt := 76) hx hb dX6_fight_70 (by decide) (fun c11 => ?_) (fun c11 => ?_)
                  · skip
                    have c11 := b2i_0 c11
                    have hbj := c11
                    refine lv_iinc (v := nI (n + 1 + 1)) (lv' := [(4, .int (nI (n + 1 + 1))), (6, .int (b2i (yCan q i j))), (5, .int (0)), (0, .ref (a 0)), (1, .int (i)), (2, .int (j)), (3, .int (b2i b))]) hx hb dX6_fight_76 hl (k := 6) rfl (inc_nI (n + 1)) (by decide) rfl (fun ls hl => ?_)
                    refine lv_goto (tgt := 3) hx hb dX6_fight_79 (by decide) ?_
                    exact ih3 (n + 1) (fgs b i j n q) (by omega) (by omega) hws ((fgt_go hn6 hcc hbi hbj).symm.trans he) _ _ hP hD hS _ (lv_sub hl [3, 4, 5, 6, 0] rfl)
                  · skip
                    have c11 := b2i_1 c11
                    have hbb : yBrk (fgs b i j n q) i = true ∨ yBrk (fgs b i j n q) j = true := Or.inr c11
                    refine lv_iload hx hb dX6_fight_73 (lv_at hl 6 rfl) ?_
                    exact ret_rwi hx hb hr hlk (by rw [← he, fgt_hit hn6 hcc hbb]) (by rw [← he, fgt_hit hn6 hcc hbb]; exact hP) hS dX6_fight_75
              · skip
                have c9 := b2i_0 c9
                have hcn : fgc b i j n q = false := by unfold fgc; rw [if_neg (by rw [hk]; decide)]; exact c9
                rw [show (if yCan q i j = true then stk q i j else q) = q from if_neg (by rw [c9]; decide)] at hP hD
                refine lv_iconst (v := -1) hx hb dX6_fight_55 rfl ?_
                exact ret_rwi hx hb hr hlk (by rw [← he, fgt_no (by omega) hcn]) (by rw [← he, fgt_no (by omega) hcn]; exact hP) hS dX6_fight_56
            · skip
              exact absurd c8 (by decide)
          · skip
            have hpar : n % 2 = 1 := by rw [show (0 : Int32) = nI 0 from rfl, nI_eq (by omega) (by omega)] at c7; omega
            refine lv_iconst (v := 1) hx hb dX6_fight_21 rfl ?_
            refine lv_goto (tgt := 26) hx hb dX6_fight_22 (by decide) ?_
            refine lv_istore (lv' := [(5, .int (1)), (0, .ref (a 0)), (1, .int (i)), (2, .int (j)), (3, .int (b2i b)), (4, .int (nI (n + 1)))]) hx hb dX6_fight_26 hl (by decide) rfl (fun ls hl => ?_)
            have hk : fgk b n = true := by simp [fgk, c2, hpar]
            refine lv_iload hx hb dX6_fight_28 (lv_at hl 0 rfl) ?_
            refine lv_if_eq (tgt := 42) hx hb dX6_fight_30 (by decide) (fun c12 => ?_) (fun c12 => ?_)
            · skip
              exact absurd c12 (by decide)
            · skip
              refine lv_aload_n hx hb dX6_fight_33 rfl (lv_at hl 1 rfl) ?_
              refine lv_iload_n hx hb dX6_fight_34 rfl (lv_at hl 3 rfl) ?_
              refine lv_iload_n hx hb dX6_fight_35 rfl (lv_at hl 2 rfl) ?_
              refine rw_i (run_V (As := [.int (j), .int (i)]) (rest := []) hC.1 ckX7_strike (kX7_strike l g a q j i hwq) (gw_in m_651 rfl) (fb_rw _ _ _) (va_recv hK.1 (kP_app.mp hP).1 (q0 := 0) rfl rfl) (fun U hU hW => ⟨by rw [hU]; exact (kP_app.mpr ⟨(kP_app.mp hP).1, kP_nil⟩), kK_warm hW hK, vD_sub (sbA _ (sb0 _)) hD⟩) ⟨rfl, rfl, Nat.le_of_ble_eq_true rfl, Nat.le_of_ble_eq_true rfl⟩ rfl hl.1 rfl (Nat.le_of_ble_eq_true rfl) dX6_fight_36 ⟨Nat.le_of_ble_eq_true rfl, Nat.le_of_ble_eq_true rfl⟩) (adr_app yW_adr rfl) (asc1 _ _) (ww' := yW g a (if yCan q j i = true then stk q j i else q) ++ []) (asc1 _ _) hP hD hS (fun H locs hP hD hS => ?_)
              refine lv_goto (tgt := 48) hx hb dX6_fight_39 (by decide) ?_
              refine lv_istore (lv' := [(6, .int (b2i (yCan q j i))), (5, .int (1)), (0, .ref (a 0)), (1, .int (i)), (2, .int (j)), (3, .int (b2i b)), (4, .int (nI (n + 1)))]) hx hb dX6_fight_48 hl (by decide) rfl (fun ls hl => ?_)
              refine lv_iload hx hb dX6_fight_50 (lv_at hl 0 rfl) ?_
              refine lv_if_ne (tgt := 57) hx hb dX6_fight_52 (by decide) (fun c13 => ?_) (fun c13 => ?_)
              · skip
                have c13 := b2i_1 c13
                have hcc : fgc b i j n q = true := by unfold fgc; rw [if_pos hk]; exact c13
                rw [show (if yCan q j i = true then stk q j i else q) = fgs b i j n q from by rw [if_pos c13]; unfold fgs; rw [if_pos hk]] at hP hD
                have hws : Wf (fgs b i j n q) := Wf_fgs hwq hcc
                refine lv_aload_n hx hb dX6_fight_57 rfl (lv_at hl 2 rfl) ?_
                refine lv_iload_n hx hb dX6_fight_58 rfl (lv_at hl 3 rfl) ?_
                refine ro_i (run_V (As := [.int (i)]) (rest := []) hC.1 ckX7_isBroken (kX7_isBroken l g a (fgs b i j n q) i hws.n6) (gw_in m_652 rfl) (fb_ro _ _ _) (va_recv hK.1 (kP_app.mp hP).1 (q0 := 0) rfl rfl) (fun U hU hW => ⟨by rw [hU]; exact (kP_app.mp hP).1, kK_warm hW hK⟩) ⟨rfl, rfl, Nat.le_of_ble_eq_true rfl, Nat.le_of_ble_eq_true rfl⟩ rfl hl.1 rfl (Nat.le_of_ble_eq_true rfl) dX6_fight_59 ⟨Nat.le_of_ble_eq_true rfl, Nat.le_of_ble_eq_true rfl⟩) ?_
                refine lv_if_ne (tgt := 73) hx hb dX6_fight_62 (by decide) (fun c14 => ?_) (fun c14 => ?_)
                · skip
                  have c14 := b2i_1 c14
                  have hbb : yBrk (fgs b i j n q) i = true ∨ yBrk (fgs b i j n q) j = true := Or.inl c14
                  refine lv_iload hx hb dX6_fight_73 (lv_at hl 6 rfl) ?_
                  exact ret_rwi hx hb hr hlk (by rw [← he, fgt_hit hn6 hcc hbb]) (by rw [← he, fgt_hit hn6 hcc hbb]; exact hP) hS dX6_fight_75
                · skip
                  have c14 := b2i_0 c14
                  have hbi := c14
                  refine lv_aload_n hx hb dX6_fight_65 rfl (lv_at hl 2 rfl) ?_
                  refine lv_iload_n hx hb dX6_fight_66 rfl (lv_at hl 4 rfl) ?_
                  refine ro_i (run_V (As := [.int (j)]) (rest := []) hC.1 ckX7_isBroken (kX7_isBroken l g a (fgs b i j n q) j hws.n6) (gw_in m_652 rfl) (fb_ro _ _ _) (va_recv hK.1 (kP_app.mp hP).1 (q0 := 0) rfl rfl) (fun U hU hW => ⟨by rw [hU]; exact (kP_app.mp hP).1, kK_warm hW hK⟩) ⟨rfl, rfl, Nat.le_of_ble_eq_true rfl, Nat.le_of_ble_eq_true rfl⟩ rfl hl.1 rfl (Nat.le_of_ble_eq_true rfl) dX6_fight_67 ⟨Nat.le_of_ble_eq_true rfl, Nat.le_of_ble_eq_true rfl⟩) ?_
                  refine lv_if_eq (tgt := 76) hx hb dX6_fight_70 (by decide) (fun c15 => ?_) (fun c15 => ?_)
                  · skip
                    have c15 := b2i_0 c15
                    have hbj := c15
                    refine lv_iinc (v := nI (n + 1 + 1)) (lv' := [(4, .int (nI (n + 1 + 1))), (6, .int (b2i (yCan q j i))), (5, .int (1)), (0, .ref (a 0)), (1, .int (i)), (2, .int (j)), (3, .int (b2i b))]) hx hb dX6_fight_76 hl (k := 6) rfl (inc_nI (n + 1)) (by decide) rfl (fun ls hl => ?_)
                    refine lv_goto (tgt := 3) hx hb dX6_fight_79 (by decide) ?_
                    exact ih3 (n + 1) (fgs b i j n q) (by omega) (by omega) hws ((fgt_go hn6 hcc hbi hbj).symm.trans he) _ _ hP hD hS _ (lv_sub hl [3, 4, 5, 6, 0] rfl)
                  · skip
                    have c15 := b2i_1 c15
                    have hbb : yBrk (fgs b i j n q) i = true ∨ yBrk (fgs b i j n q) j = true := Or.inr c15
                    refine lv_iload hx hb dX6_fight_73 (lv_at hl 6 rfl) ?_
                    exact ret_rwi hx hb hr hlk (by rw [← he, fgt_hit hn6 hcc hbb]) (by rw [← he, fgt_hit hn6 hcc hbb]; exact hP) hS dX6_fight_75
              · skip
                have c13 := b2i_0 c13
                have hcn : fgc b i j n q = false := by unfold fgc; rw [if_pos hk]; exact c13
                rw [show (if yCan q j i = true then stk q j i else q) = q from if_neg (by rw [c13]; decide)] at hP hD
                refine lv_iconst (v := -1) hx hb dX6_fight_55 rfl ?_
                exact ret_rwi hx hb hr hlk (by rw [← he, fgt_no (by omega) hcn]) (by rw [← he, fgt_no (by omega) hcn]; exact hP) hS dX6_fight_56
  exact cut3 _ 0 r (Nat.lt_succ_self _) (by omega) hw rfl _ _ hP hD hS _ (lv_sub hl [1, 2, 3, 4, 0] rfl)
set_option maxHeartbeats 4000000 in
set_option maxRecDepth 100000 in
theorem kX6_fightOn (l : Launch) (g : gG) (t c : Nat → Nat) (sg : Nat → Nat) (bs bc : Int32) (p1 p2 p3 p4 p5 rg : Nat → Int32) (a : Nat → Nat) (r : Nat → Int32) (i j : Int32) (b : Bool) (hw : Wf r) : Met l yX6_fightOn (.code yX6_fightOn cX6_fightOn 5 (some .int) :: gw) (rmN 5) (va_Pc [.ref (t 0), .ref (a 0), .int (i), .int (j), .int (b2i b)] (rwPre g (tW g t (c 0) sg bs bc p1 p2 p3 p4 p5 ++ (yW g c rg ++ (yW g a r ++ []))))) (rwQi g (tW g t (c 0) sg bs bc p1 p2 p3 p4 p5 ++ (yW g c rg ++ (yW g a r ++ []))) (tW g t (c 0) sg bs bc p1 p2 p3 p4 p5 ++ (yW g c (fgt b i j 60 0 r).2 ++ (yW g a r ++ []))) (fgt b i j 60 0 r).1) 0 0 (dm (tW g t (c 0) sg bs bc p1 p2 p3 p4 p5 ++ (yW g c rg ++ (yW g a r ++ [])))) := by
  refine met_start (by decide) (Nat.le_of_ble_eq_true rfl) ?_
  intro pp ee ss mm bl mt cd hC hpre ls hl
  obtain ⟨⟨hx, hb, hml, hown, hts⟩, hr, hlk, hnm⟩ := id hC
  have hl : lv_has ls 5 [(0, .ref (t 0)), (1, .ref (a 0)), (2, .int (i)), (3, .int (j)), (4, .int (b2i b))] := hl
  obtain ⟨hP, hK, hD⟩ := hpre
  have hS : va_S (dm (tW g t (c 0) sg bs bc p1 p2 p3 p4 p5 ++ (yW g c rg ++ (yW g a r ++ [])))) ss.heap ss.heap [] := va_S.rf
  have hD := vD_self hD
  refine lv_aload_n hx hb dX6_fightOn_0 rfl (lv_at hl 0 rfl) ?_
  refine kget hC.1 hK (kP_app.mp hP).1 0 rfl rfl in_6 0 (by decide) (gw_in m_241 rfl) rfl dX6_fightOn_1 ?_
  refine lv_aload_n hx hb dX6_fightOn_4 rfl (lv_at hl 1 rfl) ?_
  have hP : kP g (yW g c rg ++ (yW g a r ++ (tW g t (c 0) sg bs bc p1 p2 p3 p4 p5 ++ []))) _ := kP_perm ((pm_swap _ _ _).trans (pmA _ (pm_swap _ _ _))) hP
  have hD : va_D _ (yW g c rg ++ (yW g a r ++ (tW g t (c 0) sg bs bc p1 p2 p3 p4 p5 ++ []))) := vD_perm ((pm_swap _ _ _).trans (pmA _ (pm_swap _ _ _))) hD
  refine rw_v (run_V (As := [.ref (a 0)]) (rest := []) hC.1 ckX7_copyOf (kX7_copyOf l g c a rg r) (gw_in m_647 rfl) (fb_rw _ _ _) (va_recv hK.1 (kP_app.mp hP).1 (q0 := 0) rfl rfl) (fun U hU hW => ⟨by rw [hU]; exact (kP_app.mpr ⟨(kP_app.mp hP).1, (kP_app.mpr ⟨(kP_app.mp (kP_app.mp hP).2).1, kP_nil⟩)⟩), kK_warm hW hK, vD_sub (sbA _ (sbA _ (sb0 _))) hD⟩) ⟨rfl, rfl, Nat.le_of_ble_eq_true rfl, Nat.le_of_ble_eq_true rfl⟩ rfl hl.1 rfl (Nat.le_of_ble_eq_true rfl) dX6_fightOn_5 ⟨Nat.le_of_ble_eq_true rfl, Nat.le_of_ble_eq_true rfl⟩) (adr_app yW_adr (adr_app rfl rfl)) (asc2 _ _ _) (ww' := yW g c r ++ (yW g a r ++ (tW g t (c 0) sg bs bc p1 p2 p3 p4 p5 ++ []))) (asc2 _ _ _) hP hD hS (fun H locs hP hD hS => ?_)
  refine lv_aload_n hx hb dX6_fightOn_8 rfl (lv_at hl 0 rfl) ?_
  refine kget hC.1 hK (kP_app.mp (kP_app.mp (kP_app.mp hP).2).2).1 0 rfl rfl in_6 0 (by decide) (gw_in m_241 rfl) rfl dX6_fightOn_9 ?_
  refine lv_iload_n hx hb dX6_fightOn_12 rfl (lv_at hl 2 rfl) ?_
  refine lv_iload_n hx hb dX6_fightOn_13 rfl (lv_at hl 3 rfl) ?_
  refine lv_iload hx hb dX6_fightOn_14 (lv_at hl 4 rfl) ?_
  refine rw_i (run_S (As := [.ref (c 0), .int (i), .int (j), .int (b2i b)]) (rest := []) hC.1 ckX6_fight (kX6_fight l g c r i j b hw) (gw_in m_648 rfl) (fb_rw _ _ _) (fun U hU hW => ⟨by rw [hU]; exact (kP_app.mpr ⟨(kP_app.mp hP).1, kP_nil⟩), kK_warm hW hK, vD_sub (sbA _ (sb0 _)) hD⟩) ⟨rfl, rfl, Nat.le_of_ble_eq_true rfl, Nat.le_of_ble_eq_true rfl⟩ rfl hl.1 rfl (Nat.le_of_ble_eq_true rfl) dX6_fightOn_16 ⟨Nat.le_of_ble_eq_true rfl, Nat.le_of_ble_eq_true rfl⟩) (adr_app yW_adr rfl) (asc1 _ _) (ww' := yW g c (fgt b i j 60 0 r).2 ++ (yW g a r ++ (tW g t (c 0) sg bs bc p1 p2 p3 p4 p5 ++ []))) (asc1 _ _) hP hD hS (fun H locs hP hD hS => ?_)
  have hP : kP g (tW g t (c 0) sg bs bc p1 p2 p3 p4 p5 ++ (yW g c (fgt b i j 60 0 r).2 ++ (yW g a r ++ []))) _ := kP_perm ((pmA _ (pm_swap _ _ _)).trans (pm_swap _ _ _)) hP
  have hD : va_D _ (tW g t (c 0) sg bs bc p1 p2 p3 p4 p5 ++ (yW g c (fgt b i j 60 0 r).2 ++ (yW g a r ++ []))) := vD_perm ((pmA _ (pm_swap _ _ _)).trans (pm_swap _ _ _)) hD
  exact ret_rwi hx hb hr hlk (by rfl) (hP) hS dX6_fightOn_19
