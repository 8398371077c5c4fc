theorem ckX6_findResting : ckV yX6_findResting cX6_findResting 6 (some .int) 3 := ⟨(gw_in m_832 rfl), (gw_in m_69 rfl), ⟨(gw_in m_830 rfl), (gw_in m_831 rfl)⟩, by decide +kernel, by decide +kernel, by decide +kernel⟩
theorem ckX6_keepIfBetter : ckV yX6_keepIfBetter cX6_keepIfBetter 3 none 2 := ⟨(gw_in m_695 rfl), (gw_in m_69 rfl), ⟨(gw_in m_694 rfl), (gw_in m_23 rfl)⟩, by decide +kernel, by decide +kernel, by decide +kernel⟩
set_option maxHeartbeats 4000000 in
set_option maxRecDepth 100000 in
theorem kX6_findResting (l : Launch) (g : gG) (t c : Nat → Nat) (sg : Nat → Nat) (bs bc : Int32) (p1 p2 p3 p4 p5 rg : Nat → Int32) (a : Nat → Nat) (r : Nat → Int32) (p q : Int32) (hw : Wf r) : Met l yX6_findResting (.code yX6_findResting cX6_findResting 6 (some .int) :: gw) (rmN 6) (va_Pc [.ref (t 0), .ref (a 0), .int (p), .int (q)] (rwPre g (tW g t (c 0) sg bs bc p1 p2 p3 p4 p5 ++ (yW g c rg ++ (yW g a r ++ []))))) (rxQi g (tW g t (c 0) sg bs bc p1 p2 p3 p4 p5 ++ (yW g c rg ++ (yW g a r ++ []))) (fun u9 : (Nat → Int32) => tW g t (c 0) sg bs bc p1 p2 (g1F r p q p3 36) (g2F r p q p4 36) (rpF r p q (g1F r p q p3 36) (g2F r p q p4 36) p5 36) ++ (yW g c u9 ++ (yW g a r ++ []))) (nI (rkF r p q (g1F r p q p3 36) (g2F r p q p4 36) 36))) 0 0 (dm (tW g t (c 0) sg bs bc p1 p2 p3 p4 p5 ++ (yW g c rg ++ (yW g a r ++ [])))) := by
  refine met_start (by decide) (Nat.le_of_ble_eq_true rfl) ?_
  intro pp ee ss mm bl mt cd hC hpre ls hl
  obtain ⟨⟨hx, hb, hml, hown, hts⟩, hr, hlk, hnm⟩ := id hC
  have hl : lv_has ls 6 [(0, .ref (t 0)), (1, .ref (a 0)), (2, .int (p)), (3, .int (q))] := hl
  obtain ⟨hP, hK, hD⟩ := hpre
  have hS : va_S (dm (tW g t (c 0) sg bs bc p1 p2 p3 p4 p5 ++ (yW g c rg ++ (yW g a r ++ [])))) ss.heap ss.heap [] := va_S.rf
  have hD := vD_self hD
  refine lv_iconst (v := 0) hx hb dX6_findResting_0 rfl ?_
  refine lv_istore (lv' := [(4, .int (0)), (0, .ref (t 0)), (1, .ref (a 0)), (2, .int (p)), (3, .int (q))]) hx hb dX6_findResting_1 hl (by decide) rfl (fun ls hl => ?_)
  have cut3 : ∀ kk : Nat, ∀ (n : Nat) (gx : Nat → Int32), 37 - n < kk → (hn : n ≤ 36) → ∀ (H : Heap) (locs : List Loc), kP g (tW g t (c 0) sg bs bc p1 p2 (g1F r p q p3 n) (g2F r p q p4 n) p5 ++ (yW g c gx ++ (yW g a r ++ []))) H → va_D (dm (tW g t (c 0) sg bs bc p1 p2 p3 p4 p5 ++ (yW g c rg ++ (yW g a r ++ [])))) (tW g t (c 0) sg bs bc p1 p2 (g1F r p q p3 n) (g2F r p q p4 n) p5 ++ (yW g c gx ++ (yW g a r ++ []))) → va_S (dm (tW g t (c 0) sg bs bc p1 p2 p3 p4 p5 ++ (yW g c rg ++ (yW g a r ++ [])))) ss.heap H locs → ∀ (ls : Array Slot), lv_has ls 6 [(0, .ref (t 0)), (1, .ref (a 0)), (2, .int (p)), (3, .int (q)), (4, .int (nI n))] → W pp l ee (rmN 6) ss mm ([.ref (t 0), .ref (a 0), .int (p), .int (q)] : List Value).toArray bl mt cd H locs 0 0 (MQ bl (rxQi g (tW g t (c 0) sg bs bc p1 p2 p3 p4 p5 ++ (yW g c rg ++ (yW g a r ++ []))) (fun u9 : (Nat → Int32) => tW g t (c 0) sg bs bc p1 p2 (g1F r p q p3 36) (g2F r p q p4 36) (rpF r p q (g1F r p q p3 36) (g2F r p q p4 36) p5 36) ++ (yW g c u9 ++ (yW g a r ++ []))) (nI (rkF r p q (g1F r p q p3 36) (g2F r p q p4 36) 36))) ([.ref (t 0), .ref (a 0), .int (p), .int (q)] : List Value).toArray ss 0 0 (dm (tW g t (c 0) sg bs bc p1 p2 p3 p4 p5 ++ (yW g c rg ++ (yW g a r ++ []))))) (F0 mm 3 ls []) := by
    intro kk
    induction kk with
    | zero => intro n gx hmu; exact absurd hmu (Nat.not_lt_zero _)
    | succ kk ih3 =>
      intro n gx hmu hn H locs hP hD hS ls hl
      refine lv_iload hx hb dX6_findResting_3 (lv_at hl 4 rfl) ?_
      refine lv_bipush (v := 36) hx hb dX6_findResting_5 rfl ?_
      refine lv_icmp_ge (tgt := 34) hx hb dX6_findResting_7 (by decide) (fun c1 => ?_) (fun c1 => ?_)
      · skip
        have c1' := Int32.not_lt.mpr c1
        have hn9 : n = 36 := by have := lp_ge (by omega) c1; rw [show (36 : Int32).toInt = 36 from rfl] at this; omega
        subst hn9
        refine lv_iconst (v := 0) hx hb dX6_findResting_34 rfl ?_
        refine lv_istore (lv' := [(4, .int (0)), (0, .ref (t 0)), (1, .ref (a 0)), (2, .int (p)), (3, .int (q))]) hx hb dX6_findResting_35 hl (by decide) rfl (fun ls hl => ?_)
        refine lv_iconst (v := 0) hx hb dX6_findResting_37 rfl ?_
        refine lv_istore (lv' := [(5, .int (0)), (4, .int (0)), (0, .ref (t 0)), (1, .ref (a 0)), (2, .int (p)), (3, .int (q))]) hx hb dX6_findResting_38 hl (by decide) rfl (fun ls hl => ?_)
        have cut40 : ∀ kk : Nat, ∀ (n : Nat), 37 - n < kk → (hn : n ≤ 36) → ∀ (H : Heap) (locs : List Loc), kP g (tW g t (c 0) sg bs bc p1 p2 (g1F r p q p3 36) (g2F r p q p4 36) (rpF r p q (g1F r p q p3 36) (g2F r p q p4 36) p5 n) ++ (yW g c gx ++ (yW g a r ++ []))) H → va_D (dm (tW g t (c 0) sg bs bc p1 p2 p3 p4 p5 ++ (yW g c rg ++ (yW g a r ++ [])))) (tW g t (c 0) sg bs bc p1 p2 (g1F r p q p3 36) (g2F r p q p4 36) (rpF r p q (g1F r p q p3 36) (g2F r p q p4 36) p5 n) ++ (yW g c gx ++ (yW g a r ++ []))) → va_S (dm (tW g t (c 0) sg bs bc p1 p2 p3 p4 p5 ++ (yW g c rg ++ (yW g a r ++ [])))) ss.heap H locs → ∀ (ls : Array Slot), lv_has ls 6 [(0, .ref (t 0)), (1, .ref (a 0)), (2, .int (p)), (3, .int (q)), (4, .int (nI (rkF r p q (g1F r p q p3 36) (g2F r p q p4 36) n))), (5, .int (nI n))] → W pp l ee (rmN 6) ss mm ([.ref (t 0), .ref (a 0), .int (p), .int (q)] : List Value).toArray bl mt cd H locs 0 0 (MQ bl (rxQi g (tW g t (c 0) sg bs bc p1 p2 p3 p4 p5 ++ (yW g c rg ++ (yW g a r ++ []))) (fun u9 : (Nat → Int32) => tW g t (c 0) sg bs bc p1 p2 (g1F r p q p3 36) (g2F r p q p4 36) (rpF r p q (g1F r p q p3 36) (g2F r p q p4 36) p5 36) ++ (yW g c u9 ++ (yW g a r ++ []))) (nI (rkF r p q (g1F r p q p3 36) (g2F r p q p4 36) 36))) ([.ref (t 0), .ref (a 0), .int (p), .int (q)] : List Value).toArray ss 0 0 (dm (tW g t (c 0) sg bs bc p1 p2 p3 p4 p5 ++ (yW g c rg ++ (yW g a r ++ []))))) (F0 mm 40 ls []) := by
          intro kk
          induction kk with
          | zero => intro n hmu; exact absurd hmu (Nat.not_lt_zero _)
          | succ kk ih40 =>
            intro n hmu hn H locs hP hD hS ls hl
            have hrk := rk_le (r := r) (p := p) (q := q) (P := g1F r p q p3 36) (Q := g2F r p q p4 36) n
            refine lv_iload hx hb dX6_findResting_40 (lv_at hl 5 rfl) ?_
            refine lv_bipush (v := 36) hx hb dX6_findResting_42 rfl ?_
            refine lv_icmp_ge (tgt := 110) hx hb dX6_findResting_44 (by decide) (fun c2 => ?_) (fun c2 => ?_)
            · skip
              have c2' := Int32.not_lt.mpr c2
              have hn9 : n = 36 := by have := lp_ge (by omega) c2; rw [show (36 : Int32).toInt = 36 from rfl] at this; omega
              subst hn9
              refine lv_iload hx hb dX6_findResting_110 (lv_at hl 4 rfl) ?_
              exact ret_rxi (S := (Nat → Int32)) gx hx hb hr hlk (by rfl) (hP) hS dX6_findResting_112
            · skip
              have c2' := Int32.not_le.mp c2
              have hn9 : n < 36 := by have := lp_lt (by omega) c2; rw [show (36 : Int32).toInt = 36 from rfl] at this; omega
              refine lv_aload_n hx hb dX6_findResting_47 rfl (lv_at hl 1 rfl) ?_
              refine lv_iload_n hx hb dX6_findResting_48 rfl (lv_at hl 2 rfl) ?_
              refine lv_iload_n hx hb dX6_findResting_49 rfl (lv_at hl 3 rfl) ?_
              refine lv_iload hx hb dX6_findResting_50 (lv_at hl 5 rfl) ?_
              refine ro_i (run_S (As := [.ref (a 0), .int (p), .int (q), .int (nI n)]) (rest := []) hC.1 ckX6_isChoice (kX6_isChoice l g a r p q n hw hn9) (gw_in m_833 rfl) (fb_ro _ _ _) (fun U hU hW => ⟨by rw [hU]; exact (kP_app.mp (kP_app.mp (kP_app.mp hP).2).2).1, kK_warm hW hK⟩) ⟨rfl, rfl, Nat.le_of_ble_eq_true rfl, Nat.le_of_ble_eq_true rfl⟩ rfl hl.1 rfl (Nat.le_of_ble_eq_true rfl) dX6_findResting_52 ⟨Nat.le_of_ble_eq_true rfl, Nat.le_of_ble_eq_true rfl⟩) ?_
              refine lv_if_eq (tgt := 104) hx hb dX6_findResting_55 (by decide) (fun c3 => ?_) (fun c3 => ?_)
              · skip
                have c3 := b2i_0 c3
                refine lv_iinc (v := nI (n + 1)) (lv' := [(5, .int (nI (n + 1))), (0, .ref (t 0)), (1, .ref (a 0)), (2, .int (p)), (3, .int (q)), (4, .int (nI (rkF r p q (g1F r p q p3 36) (g2F r p q p4 36) n)))]) hx hb dX6_findResting_104 hl (k := 5) rfl (inc_nI n) (by decide) rfl (fun ls hl => ?_)
                refine lv_goto (tgt := 40) hx hb dX6_findResting_107 (by decide) ?_
                have e9 : rkF r p q (g1F r p q p3 36) (g2F r p q p4 36) (n + 1) = rkF r p q (g1F r p q p3 36) (g2F r p q p4 36) n ∧ rpF r p q (g1F r p q p3 36) (g2F r p q p4 36) p5 (n + 1) = rpF r p q (g1F r p q p3 36) (g2F r p q p4 36) p5 n := ⟨rk_f (Or.inl c3), rp_f (Or.inl c3)⟩
                have hl : lv_has ls 6 [(5, .int (nI (n + 1))), (0, .ref (t 0)), (1, .ref (a 0)), (2, .int (p)), (3, .int (q)), (4, .int (nI (rkF r p q (g1F r p q p3 36) (g2F r p q p4 36) (n + 1))))] := by simp only [e9.1, e9.2]; exact hl
                have hP : kP g (tW g t (c 0) sg bs bc p1 p2 (g1F r p q p3 36) (g2F r p q p4 36) (rpF r p q (g1F r p q p3 36) (g2F r p q p4 36) p5 (n + 1)) ++ (yW g c gx ++ (yW g a r ++ []))) _ := kP_eq (by simp only [e9.1, e9.2]) hP
                have hD : va_D _ (tW g t (c 0) sg bs bc p1 p2 (g1F r p q p3 36) (g2F r p q p4 36) (rpF r p q (g1F r p q p3 36) (g2F r p q p4 36) p5 (n + 1)) ++ (yW g c gx ++ (yW g a r ++ []))) := vD_eq (by simp only [e9.1, e9.2]) hD
                exact ih40 (n + 1) (by omega) (by omega) _ _ hP hD hS _ (lv_sub hl [1, 2, 3, 4, 5, 0] rfl)
              · skip
                have c3 := b2i_1 c3
                refine lv_aload_n hx hb dX6_findResting_58 rfl (lv_at hl 0 rfl) ?_
                refine lv_aload_n hx hb dX6_findResting_59 rfl (lv_at hl 1 rfl) ?_
                refine lv_iload_n hx hb dX6_findResting_60 rfl (lv_at hl 2 rfl) ?_
                refine lv_iload_n hx hb dX6_findResting_61 rfl (lv_at hl 3 rfl) ?_
                refine lv_iload hx hb dX6_findResting_62 (lv_at hl 5 rfl) ?_
                refine ro_i (run_V (As := [.ref (a 0), .int (p), .int (q), .int (nI n)]) (rest := []) hC.1 ckX6_rests (kX6_rests l g t c sg bs bc p1 p2 (g1F r p q p3 36) (g2F r p q p4 36) (rpF r p q (g1F r p q p3 36) (g2F r p q p4 36) p5 n) gx a r p q n hw hn9) (gw_in m_844 rfl) (fb_ro _ _ _) (va_recv hK.1 (kP_app.mp hP).1 (q0 := 0) rfl rfl) (fun U hU hW => ⟨by rw [hU]; exact (kP_app.mpr ⟨(kP_app.mp hP).1, (kP_app.mpr ⟨(kP_app.mp (kP_app.mp hP).2).1, (kP_app.mpr ⟨(kP_app.mp (kP_app.mp (kP_app.mp hP).2).2).1, (kP_mem.mpr (fun _ h => absurd h List.not_mem_nil))⟩)⟩)⟩), kK_warm hW hK⟩) ⟨rfl, rfl, Nat.le_of_ble_eq_true rfl, Nat.le_of_ble_eq_true rfl⟩ rfl hl.1 rfl (Nat.le_of_ble_eq_true rfl) dX6_findResting_64 ⟨Nat.le_of_ble_eq_true rfl, Nat.le_of_ble_eq_true rfl⟩) ?_
                refine lv_if_ne (tgt := 73) hx hb dX6_findResting_67 (by decide) (fun c4 => ?_) (fun c4 => ?_)
                · skip
                  have c4 := b2i_1 c4
                  refine lv_iload hx hb dX6_findResting_73 (lv_at hl 4 rfl) ?_
                  refine lv_bipush (v := 36) hx hb dX6_findResting_75 rfl ?_
                  refine lv_icmp_ge (tgt := 104) hx hb dX6_findResting_77 (by decide) (fun c5 => ?_) (fun c5 => ?_)
                  · skip
                    have c5' := Int32.not_lt.mpr c5
                    exact absurd c5 (show ¬ nI 36 ≤ nI _ from nI_ge (by omega) (by omega))
                  · skip
                    have c5' := Int32.not_le.mp c5
                    refine lv_aload_n hx hb dX6_findResting_80 rfl (lv_at hl 0 rfl) ?_
                    refine kget hC.1 hK (kP_app.mp hP).1 0 rfl rfl in_6 8 (by decide) (gw_in m_252 rfl) rfl dX6_findResting_81 ?_
                    refine lv_iload hx hb dX6_findResting_84 (lv_at hl 4 rfl) ?_
                    refine lv_iinc (v := nI (rkF r p q (g1F r p q p3 36) (g2F r p q p4 36) n + 1)) (lv' := [(4, .int (nI (rkF r p q (g1F r p q p3 36) (g2F r p q p4 36) n + 1))), (0, .ref (t 0)), (1, .ref (a 0)), (2, .int (p)), (3, .int (q)), (5, .int (nI n))]) hx hb dX6_findResting_86 hl (k := 4) rfl (inc_nI (rkF r p q (g1F r p q p3 36) (g2F r p q p4 36) n)) (by decide) rfl (fun ls hl => ?_)
                    refine lv_bipush (v := 10) hx hb dX6_findResting_89 rfl ?_
                    refine lv_iload hx hb dX6_findResting_91 (lv_at hl 5 rfl) ?_
                    refine lv_bipush (v := 6) hx hb dX6_findResting_93 rfl ?_
                    refine lv_idiv hx hb dX6_findResting_95 (by decide) ?_
                    refine top_i (x := (nI n) / 6) (y := nI (n / 6)) (pk_div (d := 6) (by omega) (by omega) (by omega)) ?_
                    refine lv_imul hx hb dX6_findResting_96 ?_
                    refine lv_iload hx hb dX6_findResting_97 (lv_at hl 5 rfl) ?_
                    refine lv_bipush (v := 6) hx hb dX6_findResting_99 rfl ?_
                    refine lv_irem hx hb dX6_findResting_101 (by decide) ?_
                    refine top_i (x := (nI n) - (nI n) / 6 * 6) (y := nI (n % 6)) (pk_rem (d := 6) (by omega) (by omega) (by omega)) ?_
                    refine lv_iadd hx hb dX6_findResting_102 ?_
                    refine top_i (x := (10 * (nI (n / 6))) + (nI (n % 6))) (y := nI (10 * (n / 6) + n % 6)) (by rw [show (10 : Int32) = nI 10 from rfl, pk_mul, nI_add]) ?_
                    refine kast (B' := tW g t (c 0) sg bs bc p1 p2 (g1F r p q p3 36) (g2F r p q p4 36) (upd (rpF r p q (g1F r p q p3 36) (g2F r p q p4 36) p5 n) (rkF r p q (g1F r p q p3 36) (g2F r p q p4 36) n) (nI (10 * (n / 6) + n % 6)))) hC.1 hK hP hD hS 6 rfl (vp_in_nI (by omega) (by omega)) (fun _ h => by rw [cl_nI (by omega)] at h; exact h) tW_adr dX6_findResting_103 (fun H locs hP hD hS => ?_)
                    refine lv_iinc (v := nI (n + 1)) (lv' := [(5, .int (nI (n + 1))), (4, .int (nI (rkF r p q (g1F r p q p3 36) (g2F r p q p4 36) n + 1))), (0, .ref (t 0)), (1, .ref (a 0)), (2, .int (p)), (3, .int (q))]) hx hb dX6_findResting_104 hl (k := 5) rfl (inc_nI n) (by decide) rfl (fun ls hl => ?_)
                    refine lv_goto (tgt := 40) hx hb dX6_findResting_107 (by decide) ?_
                    have e9 : rkF r p q (g1F r p q p3 36) (g2F r p q p4 36) (n + 1) = rkF r p q (g1F r p q p3 36) (g2F r p q p4 36) n + 1 ∧ rpF r p q (g1F r p q p3 36) (g2F r p q p4 36) p5 (n + 1) = (upd (rpF r p q (g1F r p q p3 36) (g2F r p q p4 36) p5 n) (rkF r p q (g1F r p q p3 36) (g2F r p q p4 36) n) (nI (10 * (n / 6) + n % 6))) := ⟨rk_t ⟨c3, c4⟩, rp_t ⟨c3, c4⟩⟩
                    have hl : lv_has ls 6 [(5, .int (nI (n + 1))), (4, .int (nI (rkF r p q (g1F r p q p3 36) (g2F r p q p4 36) (n + 1)))), (0, .ref (t 0)), (1, .ref (a 0)), (2, .int (p)), (3, .int (q))] := by simp only [e9.1, e9.2]; exact hl
                    have hP : kP g (tW g t (c 0) sg bs bc p1 p2 (g1F r p q p3 36) (g2F r p q p4 36) (rpF r p q (g1F r p q p3 36) (g2F r p q p4 36) p5 (n + 1)) ++ (yW g c gx ++ (yW g a r ++ []))) _ := kP_eq (by simp only [e9.1, e9.2]) hP
                    have hD : va_D _ (tW g t (c 0) sg bs bc p1 p2 (g1F r p q p3 36) (g2F r p q p4 36) (rpF r p q (g1F r p q p3 36) (g2F r p q p4 36) p5 (n + 1)) ++ (yW g c gx ++ (yW g a r ++ []))) := vD_eq (by simp only [e9.1, e9.2]) hD
                    exact ih40 (n + 1) (by omega) (by omega) _ _ hP hD hS _ (lv_sub hl [2, 3, 4, 5, 1, 0] rfl)
                · skip
                  have c4 := b2i_0 c4
                  refine lv_goto (tgt := 104) hx hb dX6_findResting_70 (by decide) ?_
                  refine lv_iinc (v := nI (n + 1)) (lv' := [(5, .int (nI (n + 1))), (0, .ref (t 0)), (1, .ref (a 0)), (2, .int (p)), (3, .int (q)), (4, .int (nI (rkF r p q (g1F r p q p3 36) (g2F r p q p4 36) n)))]) hx hb dX6_findResting_104 hl (k := 5) rfl (inc_nI n) (by decide) rfl (fun ls hl => ?_)
                  refine lv_goto (tgt := 40) hx hb dX6_findResting_107 (by decide) ?_
                  have e9 : rkF r p q (g1F r p q p3 36) (g2F r p q p4 36) (n + 1) = rkF r p q (g1F r p q p3 36) (g2F r p q p4 36) n ∧ rpF r p q (g1F r p q p3 36) (g2F r p q p4 36) p5 (n + 1) = rpF r p q (g1F r p q p3 36) (g2F r p q p4 36) p5 n := ⟨rk_f (Or.inr c4), rp_f (Or.inr c4)⟩
                  have hl : lv_has ls 6 [(5, .int (nI (n + 1))), (0, .ref (t 0)), (1, .ref (a 0)), (2, .int (p)), (3, .int (q)), (4, .int (nI (rkF r p q (g1F r p q p3 36) (g2F r p q p4 36) (n + 1))))] := by simp only [e9.1, e9.2]; exact hl
                  have hP : kP g (tW g t (c 0) sg bs bc p1 p2 (g1F r p q p3 36) (g2F r p q p4 36) (rpF r p q (g1F r p q p3 36) (g2F r p q p4 36) p5 (n + 1)) ++ (yW g c gx ++ (yW g a r ++ []))) _ := kP_eq (by simp only [e9.1, e9.2]) hP
                  have hD : va_D _ (tW g t (c 0) sg bs bc p1 p2 (g1F r p q p3 36) (g2F r p q p4 36) (rpF r p q (g1F r p q p3 36) (g2F r p q p4 36) p5 (n + 1)) ++ (yW g c gx ++ (yW g a r ++ []))) := vD_eq (by simp only [e9.1, e9.2]) hD
                  exact ih40 (n + 1) (by omega) (by omega) _ _ hP hD hS _ (lv_sub hl [1, 2, 3, 4, 5, 0] rfl)
        exact cut40 _ 0 (Nat.lt_succ_self _) (by omega) _ _ hP hD hS _ (lv_sub hl [2, 3, 4, 5, 1, 0] rfl)
      · skip
        have c1' := Int32.not_le.mp c1
        have hn9 : n < 36 := by have := lp_lt (by omega) c1; rw [show (36 : Int32).toInt = 36 from rfl] at this; omega
        refine lv_aload_n hx hb dX6_findResting_10 rfl (lv_at hl 1 rfl) ?_
        refine lv_iload_n hx hb dX6_findResting_11 rfl (lv_at hl 2 rfl) ?_
        refine lv_iload_n hx hb dX6_findResting_12 rfl (lv_at hl 3 rfl) ?_
        refine lv_iload hx hb dX6_findResting_13 (lv_at hl 4 rfl) ?_
        refine ro_i (run_S (As := [.ref (a 0), .int (p), .int (q), .int (nI n)]) (rest := []) hC.1 ckX6_isChoice (kX6_isChoice l g a r p q n hw hn9) (gw_in m_833 rfl) (fb_ro _ _ _) (fun U hU hW => ⟨by rw [hU]; exact (kP_app.mp (kP_app.mp (kP_app.mp hP).2).2).1, kK_warm hW hK⟩) ⟨rfl, rfl, Nat.le_of_ble_eq_true rfl, Nat.le_of_ble_eq_true rfl⟩ rfl hl.1 rfl (Nat.le_of_ble_eq_true rfl) dX6_findResting_15 ⟨Nat.le_of_ble_eq_true rfl, Nat.le_of_ble_eq_true rfl⟩) ?_
        refine lv_if_eq (tgt := 28) hx hb dX6_findResting_18 (by decide) (fun c6 => ?_) (fun c6 => ?_)
        · skip
          have c6 := b2i_0 c6
          refine lv_iinc (v := nI (n + 1)) (lv' := [(4, .int (nI (n + 1))), (0, .ref (t 0)), (1, .ref (a 0)), (2, .int (p)), (3, .int (q))]) hx hb dX6_findResting_28 hl (k := 4) rfl (inc_nI n) (by decide) rfl (fun ls hl => ?_)
          refine lv_goto (tgt := 3) hx hb dX6_findResting_31 (by decide) ?_
          have e9 : g1F r p q p3 (n + 1) = g1F r p q p3 n ∧ g2F r p q p4 (n + 1) = g2F r p q p4 n := ⟨g1_f c6, g2_f c6⟩
          have hP : kP g (tW g t (c 0) sg bs bc p1 p2 (g1F r p q p3 (n + 1)) (g2F r p q p4 (n + 1)) p5 ++ (yW g c gx ++ (yW g a r ++ []))) _ := kP_eq (by rw [e9.1, e9.2]) hP
          have hD : va_D _ (tW g t (c 0) sg bs bc p1 p2 (g1F r p q p3 (n + 1)) (g2F r p q p4 (n + 1)) p5 ++ (yW g c gx ++ (yW g a r ++ []))) := vD_eq (by rw [e9.1, e9.2]) hD
          exact ih3 (n + 1) gx (by omega) (by omega) _ _ hP hD hS _ (lv_sub hl [1, 2, 3, 4, 0] rfl)
        · skip
          have c6 := b2i_1 c6
          refine lv_aload_n hx hb dX6_findResting_21 rfl (lv_at hl 0 rfl) ?_
          refine lv_aload_n hx hb dX6_findResting_22 rfl (lv_at hl 1 rfl) ?_
          refine lv_iload hx hb dX6_findResting_23 (lv_at hl 4 rfl) ?_
          refine rw_v (run_V (As := [.ref (a 0), .int (nI n)]) (rest := []) hC.1 ckX6_weigh (kX6_weigh l g t c sg bs bc p1 p2 (g1F r p q p3 n) (g2F r p q p4 n) p5 gx a r n hw hn9) (gw_in m_836 rfl) (fb_rw _ _ _) (va_recv hK.1 (kP_app.mp hP).1 (q0 := 0) rfl rfl) (fun U hU hW => ⟨by rw [hU]; exact (kP_app.mpr ⟨(kP_app.mp hP).1, (kP_app.mpr ⟨(kP_app.mp (kP_app.mp hP).2).1, (kP_app.mpr ⟨(kP_app.mp (kP_app.mp (kP_app.mp hP).2).2).1, kP_nil⟩)⟩)⟩), kK_warm hW hK, vD_sub (sbA _ (sbA _ (sbA _ (sb0 _)))) hD⟩) ⟨rfl, rfl, Nat.le_of_ble_eq_true rfl, Nat.le_of_ble_eq_true rfl⟩ rfl hl.1 rfl (Nat.le_of_ble_eq_true rfl) dX6_findResting_25 ⟨Nat.le_of_ble_eq_true rfl, Nat.le_of_ble_eq_true rfl⟩) (adr_app tW_adr (adr_app yW_adr (adr_app rfl rfl))) (asc3 _ _ _ _) (ww' := tW g t (c 0) sg bs bc p1 p2 (upd (g1F r p q p3 n) n (gtB (fgt true (nI (n / 6)) (nI (n % 6)) 60 0 r).2 r (nI (n / 6)))) (upd (g2F r p q p4 n) n (gtB (fgt true (nI (n / 6)) (nI (n % 6)) 60 0 r).2 r (nI (n % 6)))) p5 ++ (yW g c (fgt true (nI (n / 6)) (nI (n % 6)) 60 0 r).2 ++ (yW g a r ++ []))) (asc3 _ _ _ _) hP hD hS (fun H locs hP hD hS => ?_)
          refine lv_iinc (v := nI (n + 1)) (lv' := [(4, .int (nI (n + 1))), (0, .ref (t 0)), (1, .ref (a 0)), (2, .int (p)), (3, .int (q))]) hx hb dX6_findResting_28 hl (k := 4) rfl (inc_nI n) (by decide) rfl (fun ls hl => ?_)
          refine lv_goto (tgt := 3) hx hb dX6_findResting_31 (by decide) ?_
          have e9 : g1F r p q p3 (n + 1) = (upd (g1F r p q p3 n) n (gtB (fgt true (nI (n / 6)) (nI (n % 6)) 60 0 r).2 r (nI (n / 6)))) ∧ g2F r p q p4 (n + 1) = (upd (g2F r p q p4 n) n (gtB (fgt true (nI (n / 6)) (nI (n % 6)) 60 0 r).2 r (nI (n % 6)))) := ⟨g1_t c6, g2_t c6⟩
          have hP : kP g (tW g t (c 0) sg bs bc p1 p2 (g1F r p q p3 (n + 1)) (g2F r p q p4 (n + 1)) p5 ++ (yW g c (fgt true (nI (n / 6)) (nI (n % 6)) 60 0 r).2 ++ (yW g a r ++ []))) _ := kP_eq (by rw [e9.1, e9.2]) hP
          have hD : va_D _ (tW g t (c 0) sg bs bc p1 p2 (g1F r p q p3 (n + 1)) (g2F r p q p4 (n + 1)) p5 ++ (yW g c (fgt true (nI (n / 6)) (nI (n % 6)) 60 0 r).2 ++ (yW g a r ++ []))) := vD_eq (by rw [e9.1, e9.2]) hD
          exact ih3 (n + 1) (fgt true (nI (n / 6)) (nI (n % 6)) 60 0 r).2 (by omega) (by omega) _ _ hP hD hS _ (lv_sub hl [1, 2, 3, 4, 0] rfl)
  exact cut3 _ 0 rg (Nat.lt_succ_self _) (by omega) _ _ hP hD hS _ (lv_sub hl [1, 2, 3, 4, 0] rfl)
set_option maxHeartbeats 4000000 in
set_option maxRecDepth 100000 in
theorem kX6_keepIfBetter (l : Launch) (g : gG) (t c : Nat → Nat) (sg : Nat → Nat) (bs bc : Int32) (p1 p2 p3 p4 p5 : Nat → Int32) (s d : Int32) : Met l yX6_keepIfBetter (.code yX6_keepIfBetter cX6_keepIfBetter 3 none :: gw) (rmN 1) (va_Pc [.ref (t 0), .int (s), .int (d)] (rwPre g (tW g t (c 0) sg bs bc p1 p2 p3 p4 p5 ++ []))) (rwQv g (tW g t (c 0) sg bs bc p1 p2 p3 p4 p5 ++ []) (tW g t (c 0) sg (if kbB s d bs bc = true then s else bs) (if kbB s d bs bc = true then d else bc) p1 (if kbB s d bs bc = true then p1 else p2) p3 p4 p5 ++ [])) 0 0 (dm (tW g t (c 0) sg bs bc p1 p2 p3 p4 p5 ++ [])) := by
  refine met_start (by decide) (Nat.le_of_ble_eq_true rfl) ?_
  intro pp ee ss mm bl mt cd hC hpre ls hl
  obtain ⟨⟨hx, hb, hml, hown, hts⟩, hr, hlk, hnm⟩ := id hC
  have hl : lv_has ls 3 [(0, .ref (t 0)), (1, .int (s)), (2, .int (d))] := hl
  obtain ⟨hP, hK, hD⟩ := hpre
  have hS : va_S (dm (tW g t (c 0) sg bs bc p1 p2 p3 p4 p5 ++ [])) ss.heap ss.heap [] := va_S.rf
  have hD := vD_self hD
  refine lv_iload_n hx hb dX6_keepIfBetter_0 rfl (lv_at hl 1 rfl) ?_
  refine lv_aload_n hx hb dX6_keepIfBetter_1 rfl (lv_at hl 0 rfl) ?_
  refine kget hC.1 hK (kP_app.mp hP).1 0 rfl rfl in_6 1 (by decide) (gw_in m_243 rfl) rfl dX6_keepIfBetter_2 ?_
  refine lv_icmp_lt (tgt := 24) hx hb dX6_keepIfBetter_5 (by decide) (fun c1 => ?_) (fun c1 => ?_)
  · skip
    have c1' := Int32.not_le.mpr c1
    exact ret_rwv hx hb hr hlk (kP_eq (by rw [show kbB s d bs bc = false from by simp [kbB, c1, c1']]; simp only [if_true, if_false, Bool.false_eq_true]) hP) hS dX6_keepIfBetter_24
  · skip
    have c1' := Int32.not_lt.mp c1
    refine lv_iload_n hx hb dX6_keepIfBetter_8 rfl (lv_at hl 1 rfl) ?_
    refine lv_aload_n hx hb dX6_keepIfBetter_9 rfl (lv_at hl 0 rfl) ?_
    refine kget hC.1 hK (kP_app.mp hP).1 0 rfl rfl in_6 1 (by decide) (gw_in m_243 rfl) rfl dX6_keepIfBetter_10 ?_
    refine lv_icmp_ne (tgt := 25) hx hb dX6_keepIfBetter_13 (by decide) (fun c2 => ?_) (fun c2 => ?_)
    · skip
      refine lv_aload_n hx hb dX6_keepIfBetter_25 rfl (lv_at hl 0 rfl) ?_
      refine lv_iload_n hx hb dX6_keepIfBetter_26 rfl (lv_at hl 1 rfl) ?_
      refine kput (B' := tW g t (c 0) sg s bc p1 p2 p3 p4 p5) hC.1 hK hP hD hS 0 rfl rfl in_6 tyX6 tyX6_ok nmX6 1 (by decide) (gw_in m_243 rfl) rfl (ty := .int) (by decide +kernel) rfl rfl (Nat.le_of_ble_eq_true rfl) (fun _ h => h) tW_adr dX6_keepIfBetter_27 (fun H locs hP hD hS => ?_)
      refine lv_aload_n hx hb dX6_keepIfBetter_30 rfl (lv_at hl 0 rfl) ?_
      refine lv_iload_n hx hb dX6_keepIfBetter_31 rfl (lv_at hl 2 rfl) ?_
      refine kput (B' := tW g t (c 0) sg s d p1 p2 p3 p4 p5) hC.1 hK hP hD hS 0 rfl rfl in_6 tyX6 tyX6_ok nmX6 2 (by decide) (gw_in m_245 rfl) rfl (ty := .int) (by decide +kernel) rfl rfl (Nat.le_of_ble_eq_true rfl) (fun _ h => h) tW_adr dX6_keepIfBetter_32 (fun H locs hP hD hS => ?_)
      refine lv_aload_n hx hb dX6_keepIfBetter_35 rfl (lv_at hl 0 rfl) ?_
      refine kget hC.1 hK (kP_app.mp hP).1 0 rfl rfl in_6 4 (by decide) (gw_in m_248 rfl) rfl dX6_keepIfBetter_36 ?_
      refine lv_iconst (v := 0) hx hb dX6_keepIfBetter_39 rfl ?_
      refine lv_aload_n hx hb dX6_keepIfBetter_40 rfl (lv_at hl 0 rfl) ?_
      refine kget hC.1 hK (kP_app.mp hP).1 0 rfl rfl in_6 5 (by decide) (gw_in m_249 rfl) rfl dX6_keepIfBetter_41 ?_
      refine lv_iconst (v := 0) hx hb dX6_keepIfBetter_44 rfl ?_
      refine lv_bipush (v := 6) hx hb dX6_keepIfBetter_45 rfl ?_
      refine kcpy (B' := tW g t (c 0) sg s d p1 (va_cpy p1 p2 (cl 0) (cl 0) (cl 6)) p3 p4 p5) hC.1 (hml.trans hl.1.symm) hK hP hD hS 2 3 (app_get rfl) rfl (hts _ (gw_in m_696 rfl)) (hts _ (gw_in m_559 rfl)) (hts _ (gw_in m_558 rfl)) (hts _ (gw_in m_77 rfl)) (by decide) (by decide) (by decide) (by decide) (by decide) (fun _ h => h) tW_adr (Nat.le_of_ble_eq_true rfl) (Nat.le_of_ble_eq_true rfl) dX6_keepIfBetter_47 (fun H locs hP hD hS => ?_)
      have hP : kP g (tW g t (c 0) sg s d p1 p1 p3 p4 p5 ++ []) _ := kP_new (tW_p2 (fun j hj => cpy_all (n := 6) hj)) hP
      have hD : va_D _ (tW g t (c 0) sg s d p1 p1 p3 p4 p5 ++ []) := vD_adr (adr_app tW_adr rfl) hD
      exact ret_rwv hx hb hr hlk (kP_eq (by rw [show kbB s d bs bc = true from by simp [kbB, c1, c1', c2]]; simp only [if_true, if_false, Bool.false_eq_true]) hP) hS dX6_keepIfBetter_50
    · skip
      refine lv_iload_n hx hb dX6_keepIfBetter_16 rfl (lv_at hl 2 rfl) ?_
      refine lv_aload_n hx hb dX6_keepIfBetter_17 rfl (lv_at hl 0 rfl) ?_
      refine kget hC.1 hK (kP_app.mp hP).1 0 rfl rfl in_6 2 (by decide) (gw_in m_245 rfl) rfl dX6_keepIfBetter_18 ?_
      refine lv_icmp_lt (tgt := 25) hx hb dX6_keepIfBetter_21 (by decide) (fun c3 => ?_) (fun c3 => ?_)
      · skip
        have c3' := Int32.not_le.mpr c3
        refine lv_aload_n hx hb dX6_keepIfBetter_25 rfl (lv_at hl 0 rfl) ?_
        refine lv_iload_n hx hb dX6_keepIfBetter_26 rfl (lv_at hl 1 rfl) ?_
        refine kput (B' := tW g t (c 0) sg s bc p1 p2 p3 p4 p5) hC.1 hK hP hD hS 0 rfl rfl in_6 tyX6 tyX6_ok nmX6 1 (by decide) (gw_in m_243 rfl) rfl (ty := .int) (by decide +kernel) rfl rfl (Nat.le_of_ble_eq_true rfl) (fun _ h => h) tW_adr dX6_keepIfBetter_27 (fun H locs hP hD hS => ?_)
        refine lv_aload_n hx hb dX6_keepIfBetter_30 rfl (lv_at hl 0 rfl) ?_
        refine lv_iload_n hx hb dX6_keepIfBetter_31 rfl (lv_at hl 2 rfl) ?_
        refine kput (B' := tW g t (c 0) sg s d p1 p2 p3 p4 p5) hC.1 hK hP hD hS 0 rfl rfl in_6 tyX6 tyX6_ok nmX6 2 (by decide) (gw_in m_245 rfl) rfl (ty := .int) (by decide +kernel) rfl rfl (Nat.le_of_ble_eq_true rfl) (fun _ h => h) tW_adr dX6_keepIfBetter_32 (fun H locs hP hD hS => ?_)
        refine lv_aload_n hx hb dX6_keepIfBetter_35 rfl (lv_at hl 0 rfl) ?_
        refine kget hC.1 hK (kP_app.mp hP).1 0 rfl rfl in_6 4 (by decide) (gw_in m_248 rfl) rfl dX6_keepIfBetter_36 ?_
        refine lv_iconst (v := 0) hx hb dX6_keepIfBetter_39 rfl ?_
        refine lv_aload_n hx hb dX6_keepIfBetter_40 rfl (lv_at hl 0 rfl) ?_
        refine kget hC.1 hK (kP_app.mp hP).1 0 rfl rfl in_6 5 (by decide) (gw_in m_249 rfl) rfl dX6_keepIfBetter_41 ?_
        refine lv_iconst (v := 0) hx hb dX6_keepIfBetter_44 rfl ?_
        refine lv_bipush (v := 6) hx hb dX6_keepIfBetter_45 rfl ?_
        refine kcpy (B' := tW g t (c 0) sg s d p1 (va_cpy p1 p2 (cl 0) (cl 0) (cl 6)) p3 p4 p5) hC.1 (hml.trans hl.1.symm) hK hP hD hS 2 3 (app_get rfl) rfl (hts _ (gw_in m_696 rfl)) (hts _ (gw_in m_559 rfl)) (hts _ (gw_in m_558 rfl)) (hts _ (gw_in m_77 rfl)) (by decide) (by decide) (by decide) (by decide) (by decide) (fun _ h => h) tW_adr (Nat.le_of_ble_eq_true rfl) (Nat.le_of_ble_eq_true rfl) dX6_keepIfBetter_47 (fun H locs hP hD hS => ?_)
        have hP : kP g (tW g t (c 0) sg s d p1 p1 p3 p4 p5 ++ []) _ := kP_new (tW_p2 (fun j hj => cpy_all (n := 6) hj)) hP
        have hD : va_D _ (tW g t (c 0) sg s d p1 p1 p3 p4 p5 ++ []) := vD_adr (adr_app tW_adr rfl) hD
        exact ret_rwv hx hb hr hlk (kP_eq (by rw [show kbB s d bs bc = true from by simp [kbB, c1, c1', c2, c3, c3']]; simp only [if_true, if_false, Bool.false_eq_true]) hP) hS dX6_keepIfBetter_50
      · skip
        have c3' := Int32.not_lt.mp c3
        exact ret_rwv hx hb hr hlk (kP_eq (by rw [show kbB s d bs bc = false from by simp [kbB, c1, c1', c2, c3, c3']]; simp only [if_true, if_false, Bool.false_eq_true]) hP) hS dX6_keepIfBetter_24
