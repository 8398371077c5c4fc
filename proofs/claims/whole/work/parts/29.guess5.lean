theorem ckX2_best : ckV yX2_best cX2_best 9 (some .int) 3 := ⟨(gw_in m_783 rfl), (gw_in m_70 rfl), ⟨(gw_in m_781 rfl), (gw_in m_782 rfl)⟩, by decide +kernel, by decide +kernel, by decide +kernel⟩
/-- the look by which the most alike are fewest, and how many these are -/
def bsF (al : Nat → Int32) (sk : Nat → Bool) : Nat → Int32 × Int32
  | 0 => (-1, 11)
  | n + 1 => if 1 < (bsF al sk n).2 then (if sk n = true then bsF al sk n else if al n < (bsF al sk n).2 then (nI n, al n) else bsF al sk n) else bsF al sk n
theorem bsF_skip {al : Nat → Int32} {sk : Nat → Bool} {n : Nat} (h : sk n = true) : bsF al sk (n + 1) = bsF al sk n := by
  show (if _ then _ else _) = _
  by_cases h1 : 1 < (bsF al sk n).2
  · rw [if_pos h1, if_pos h]
  · rw [if_neg h1]
theorem bsF_out {al : Nat → Int32} {sk : Nat → Bool} {n : Nat} (h : ¬ 1 < (bsF al sk n).2) : bsF al sk (n + 1) = bsF al sk n := by
  show (if _ then _ else _) = _
  rw [if_neg h]
theorem bsF_no {al : Nat → Int32} {sk : Nat → Bool} {n : Nat} (h : ¬ al n < (bsF al sk n).2) : bsF al sk (n + 1) = bsF al sk n := by
  show (if _ then _ else _) = _
  by_cases h1 : 1 < (bsF al sk n).2
  · rw [if_pos h1]
    by_cases h2 : sk n = true
    · rw [if_pos h2]
    · rw [if_neg h2, if_neg h]
  · rw [if_neg h1]
theorem bsF_yes {al : Nat → Int32} {sk : Nat → Bool} {n : Nat} (h1 : 1 < (bsF al sk n).2) (h2 : sk n = false) (h : al n < (bsF al sk n).2) : bsF al sk (n + 1) = (nI n, al n) := by
  show (if _ then _ else _) = _
  rw [if_pos h1, if_neg (by rw [h2]; decide), if_pos h]
theorem bsF_stop' {al : Nat → Int32} {sk : Nat → Bool} {n : Nat} (h : ¬ 1 < (bsF al sk n).2) : ∀ m, bsF al sk (n + m) = bsF al sk n
  | 0 => rfl
  | m + 1 => by
    have ih := bsF_stop' h m
    show bsF al sk ((n + m) + 1) = _
    rw [bsF_out (by rw [ih]; exact h), ih]
theorem bsF_stop {al : Nat → Int32} {sk : Nat → Bool} {n N : Nat} (hn : n ≤ N) (h : ¬ 1 < (bsF al sk n).2) : bsF al sk N = bsF al sk n := by
  have := bsF_stop' h (N - n)
  rwa [show n + (N - n) = N by omega] at this
set_option maxHeartbeats 4000000 in
set_option maxRecDepth 100000 in
theorem kX2_best_0 (l : Launch) (g : gG) (u : Nat → Nat) (uf : Nat → Int32) (a ay ap b1 b2 b3 : Nat → Nat) (r : Nat → Int32) (N : Nat) (f : Nat → Int32) (N1 N2 N3 : Nat) (l1 l2 l3 : Int32) (f1 f2 f3 : Nat → Int32) (who : Int32) (hw : Wf r) (hN : N1 ≤ 6) (hf : ∀ n, n < N1 → bd (f1 (6 * n + 3)) 0 44) : Met l yX2_best (.code yX2_best cX2_best 9 (some .int) :: gw) (rmN 7) (va_Pc [.ref (u 0), .int (0), .ref (a 0), .int (who)] (rwPre g (uW g u uf ++ (gW g a (ay 0) (ap 0) (b1 0) (b2 0) (b3 0) ++ (yW g ay r ++ (pW g ap N f ++ (rW g b1 N1 l1 f1 ++ (rW g b2 N2 l2 f2 ++ (rW g b3 N3 l3 f3 ++ []))))))))) (rxQi g (uW g u uf ++ (gW g a (ay 0) (ap 0) (b1 0) (b2 0) (b3 0) ++ (yW g ay r ++ (pW g ap N f ++ (rW g b1 N1 l1 f1 ++ (rW g b2 N2 l2 f2 ++ (rW g b3 N3 l3 f3 ++ []))))))) (fun u9 : (Nat → Int32) => uW g u u9 ++ (gW g a (ay 0) (ap 0) (b1 0) (b2 0) (b3 0) ++ (yW g ay r ++ (pW g ap N f ++ (rW g b1 N1 l1 f1 ++ (rW g b2 N2 l2 f2 ++ (rW g b3 N3 l3 f3 ++ []))))))) (if setB (fun k => allF f1 who (fun n => fit0 r f1 (nI k) n) N1) 10 = 0 then -1 else (bsF (fun L => moF (fun k => crk (yFact r who 1) (nI k) (nI (L % 10)) (nI (L / 10)) (yNext r)) (setB (fun k => allF f1 who (fun n => fit0 r f1 (nI k) n) N1) 10) 10) (fun _ => false) 210).1)) 0 0 (dm (uW g u uf ++ (gW g a (ay 0) (ap 0) (b1 0) (b2 0) (b3 0) ++ (yW g ay r ++ (pW g ap N f ++ (rW g b1 N1 l1 f1 ++ (rW g b2 N2 l2 f2 ++ (rW g b3 N3 l3 f3 ++ [])))))))) := by
  refine met_start (by decide) (Nat.le_of_ble_eq_true rfl) ?_
  intro pp ee ss mm bl mt cd hC hpre ls hl
  obtain ⟨⟨hx, hb, hml, hown, hts⟩, hr, hlk, hnm⟩ := id hC
  have hl : lv_has ls 9 [(0, .ref (u 0)), (1, .int (0)), (2, .ref (a 0)), (3, .int (who))] := hl
  obtain ⟨hP, hK, hD⟩ := hpre
  have hS : va_S (dm (uW g u uf ++ (gW g a (ay 0) (ap 0) (b1 0) (b2 0) (b3 0) ++ (yW g ay r ++ (pW g ap N f ++ (rW g b1 N1 l1 f1 ++ (rW g b2 N2 l2 f2 ++ (rW g b3 N3 l3 f3 ++ [])))))))) ss.heap ss.heap [] := va_S.rf
  have hD := vD_self hD
  refine lv_aload_n hx hb dX2_best_0 rfl (lv_at hl 0 rfl) ?_
  refine lv_iload_n hx hb dX2_best_1 rfl (lv_at hl 1 rfl) ?_
  refine lv_aload_n hx hb dX2_best_2 rfl (lv_at hl 2 rfl) ?_
  refine lv_iload_n hx hb dX2_best_3 rfl (lv_at hl 3 rfl) ?_
  refine ro_i (run_V (As := [.int (0), .ref (a 0), .int (who)]) (rest := []) hC.1 ckX2_thatFit (kX2_thatFit_0 l g u uf a ay ap b1 b2 b3 r N f N1 N2 N3 l1 l2 l3 f1 f2 f3 who hw hN hf) (gw_in m_784 rfl) (fb_ro _ _ _) (va_recv hK.1 (kP_app.mp hP).1 (q0 := 0) rfl rfl) (fun U hU hW => ⟨by rw [hU]; exact (kP_app.mpr ⟨(kP_app.mp hP).1, (kP_app.mpr ⟨(kP_app.mp (kP_app.mp hP).2).1, (kP_app.mpr ⟨(kP_app.mp (kP_app.mp (kP_app.mp hP).2).2).1, (kP_app.mpr ⟨(kP_app.mp (kP_app.mp (kP_app.mp (kP_app.mp hP).2).2).2).1, (kP_app.mpr ⟨(kP_app.mp (kP_app.mp (kP_app.mp (kP_app.mp (kP_app.mp hP).2).2).2).2).1, (kP_app.mpr ⟨(kP_app.mp (kP_app.mp (kP_app.mp (kP_app.mp (kP_app.mp (kP_app.mp hP).2).2).2).2).2).1, (kP_app.mpr ⟨(kP_app.mp (kP_app.mp (kP_app.mp (kP_app.mp (kP_app.mp (kP_app.mp (kP_app.mp hP).2).2).2).2).2).2).1, (kP_mem.mpr (fun _ h => absurd h List.not_mem_nil))⟩)⟩)⟩)⟩)⟩)⟩)⟩), kK_warm hW hK⟩) ⟨rfl, rfl, Nat.le_of_ble_eq_true rfl, Nat.le_of_ble_eq_true rfl⟩ rfl hl.1 rfl (Nat.le_of_ble_eq_true rfl) dX2_best_4 ⟨Nat.le_of_ble_eq_true rfl, Nat.le_of_ble_eq_true rfl⟩) ?_
  refine lv_istore (lv' := [(4, .int (setB (fun k => allF f1 who (fun n => fit0 r f1 (nI k) n) N1) 10)), (0, .ref (u 0)), (1, .int (0)), (2, .ref (a 0)), (3, .int (who))]) hx hb dX2_best_7 hl (by decide) rfl (fun ls hl => ?_)
  refine lv_iload hx hb dX2_best_9 (lv_at hl 0 rfl) ?_
  refine lv_if_ne (tgt := 16) hx hb dX2_best_11 (by decide) (fun c1 => ?_) (fun c1 => ?_)
  · skip
    refine lv_iconst (v := -1) hx hb dX2_best_16 rfl ?_
    refine lv_istore (lv' := [(5, .int (-1)), (4, .int (setB (fun k => allF f1 who (fun n => fit0 r f1 (nI k) n) N1) 10)), (0, .ref (u 0)), (1, .int (0)), (2, .ref (a 0)), (3, .int (who))]) hx hb dX2_best_17 hl (by decide) rfl (fun ls hl => ?_)
    refine lv_bipush (v := 11) hx hb dX2_best_19 rfl ?_
    refine lv_istore (lv' := [(6, .int (11)), (5, .int (-1)), (4, .int (setB (fun k => allF f1 who (fun n => fit0 r f1 (nI k) n) N1) 10)), (0, .ref (u 0)), (1, .int (0)), (2, .ref (a 0)), (3, .int (who))]) hx hb dX2_best_21 hl (by decide) rfl (fun ls hl => ?_)
    refine lv_iconst (v := 0) hx hb dX2_best_23 rfl ?_
    refine lv_istore (lv' := [(7, .int (0)), (6, .int (11)), (5, .int (-1)), (4, .int (setB (fun k => allF f1 who (fun n => fit0 r f1 (nI k) n) N1) 10)), (0, .ref (u 0)), (1, .int (0)), (2, .ref (a 0)), (3, .int (who))]) hx hb dX2_best_24 hl (by decide) rfl (fun ls hl => ?_)
    have cut26 : ∀ kk : Nat, ∀ (n : Nat) (ux : Nat → Int32), 211 - n < kk → (hn : n ≤ 210) → ∀ (H : Heap) (locs : List Loc), kP g (uW g u ux ++ (gW g a (ay 0) (ap 0) (b1 0) (b2 0) (b3 0) ++ (yW g ay r ++ (pW g ap N f ++ (rW g b1 N1 l1 f1 ++ (rW g b2 N2 l2 f2 ++ (rW g b3 N3 l3 f3 ++ []))))))) H → va_D (dm (uW g u uf ++ (gW g a (ay 0) (ap 0) (b1 0) (b2 0) (b3 0) ++ (yW g ay r ++ (pW g ap N f ++ (rW g b1 N1 l1 f1 ++ (rW g b2 N2 l2 f2 ++ (rW g b3 N3 l3 f3 ++ [])))))))) (uW g u ux ++ (gW g a (ay 0) (ap 0) (b1 0) (b2 0) (b3 0) ++ (yW g ay r ++ (pW g ap N f ++ (rW g b1 N1 l1 f1 ++ (rW g b2 N2 l2 f2 ++ (rW g b3 N3 l3 f3 ++ []))))))) → va_S (dm (uW g u uf ++ (gW g a (ay 0) (ap 0) (b1 0) (b2 0) (b3 0) ++ (yW g ay r ++ (pW g ap N f ++ (rW g b1 N1 l1 f1 ++ (rW g b2 N2 l2 f2 ++ (rW g b3 N3 l3 f3 ++ [])))))))) ss.heap H locs → ∀ (ls : Array Slot), lv_has ls 9 [(0, .ref (u 0)), (1, .int (0)), (2, .ref (a 0)), (3, .int (who)), (4, .int (setB (fun k => allF f1 who (fun n => fit0 r f1 (nI k) n) N1) 10)), (5, .int ((bsF (fun L => moF (fun k => crk (yFact r who 1) (nI k) (nI (L % 10)) (nI (L / 10)) (yNext r)) (setB (fun k => allF f1 who (fun n => fit0 r f1 (nI k) n) N1) 10) 10) (fun _ => false) n).1)), (6, .int ((bsF (fun L => moF (fun k => crk (yFact r who 1) (nI k) (nI (L % 10)) (nI (L / 10)) (yNext r)) (setB (fun k => allF f1 who (fun n => fit0 r f1 (nI k) n) N1) 10) 10) (fun _ => false) n).2)), (7, .int (nI n))] → W pp l ee (rmN 7) ss mm ([.ref (u 0), .int (0), .ref (a 0), .int (who)] : List Value).toArray bl mt cd H locs 0 0 (MQ bl (rxQi g (uW g u uf ++ (gW g a (ay 0) (ap 0) (b1 0) (b2 0) (b3 0) ++ (yW g ay r ++ (pW g ap N f ++ (rW g b1 N1 l1 f1 ++ (rW g b2 N2 l2 f2 ++ (rW g b3 N3 l3 f3 ++ []))))))) (fun u9 : (Nat → Int32) => uW g u u9 ++ (gW g a (ay 0) (ap 0) (b1 0) (b2 0) (b3 0) ++ (yW g ay r ++ (pW g ap N f ++ (rW g b1 N1 l1 f1 ++ (rW g b2 N2 l2 f2 ++ (rW g b3 N3 l3 f3 ++ []))))))) (if setB (fun k => allF f1 who (fun n => fit0 r f1 (nI k) n) N1) 10 = 0 then -1 else (bsF (fun L => moF (fun k => crk (yFact r who 1) (nI k) (nI (L % 10)) (nI (L / 10)) (yNext r)) (setB (fun k => allF f1 who (fun n => fit0 r f1 (nI k) n) N1) 10) 10) (fun _ => false) 210).1)) ([.ref (u 0), .int (0), .ref (a 0), .int (who)] : List Value).toArray ss 0 0 (dm (uW g u uf ++ (gW g a (ay 0) (ap 0) (b1 0) (b2 0) (b3 0) ++ (yW g ay r ++ (pW g ap N f ++ (rW g b1 N1 l1 f1 ++ (rW g b2 N2 l2 f2 ++ (rW g b3 N3 l3 f3 ++ []))))))))) (F0 mm 26 ls []) := by
      intro kk
      induction kk with
      | zero => intro n ux hmu; exact absurd hmu (Nat.not_lt_zero _)
      | succ kk ih26 =>
        intro n ux hmu hn H locs hP hD hS ls hl
        refine lv_iload hx hb dX2_best_26 (lv_at hl 7 rfl) ?_
        refine lv_sipush (v := 210) hx hb dX2_best_28 rfl ?_
        refine lv_icmp_ge (tgt := 96) hx hb dX2_best_31 (by decide) (fun c2 => ?_) (fun c2 => ?_)
        · skip
          have c2' := Int32.not_lt.mpr c2
          have hn9 : n = 210 := by have := lp_ge (by omega) c2; rw [show (210 : Int32).toInt = 210 from rfl] at this; omega
          subst hn9
          have hfin : (bsF (fun L => moF (fun k => crk (yFact r who 1) (nI k) (nI (L % 10)) (nI (L / 10)) (yNext r)) (setB (fun k => allF f1 who (fun n => fit0 r f1 (nI k) n) N1) 10) 10) (fun _ => false) 210).1 = (bsF (fun L => moF (fun k => crk (yFact r who 1) (nI k) (nI (L % 10)) (nI (L / 10)) (yNext r)) (setB (fun k => allF f1 who (fun n => fit0 r f1 (nI k) n) N1) 10) 10) (fun _ => false) 210).1 := rfl
          refine lv_iload hx hb dX2_best_96 (lv_at hl 5 rfl) ?_
          exact ret_rxi (S := (Nat → Int32)) ux hx hb hr hlk (by rw [if_neg c1]; try exact hfin) (hP) hS dX2_best_98
        · skip
          have c2' := Int32.not_le.mp c2
          have hn9 : n < 210 := by have := lp_lt (by omega) c2; rw [show (210 : Int32).toInt = 210 from rfl] at this; omega
          refine lv_iload hx hb dX2_best_34 (lv_at hl 6 rfl) ?_
          refine lv_iconst (v := 1) hx hb dX2_best_36 rfl ?_
          refine lv_icmp_le (tgt := 96) hx hb dX2_best_37 (by decide) (fun c3 => ?_) (fun c3 => ?_)
          · skip
            have c3' := Int32.not_lt.mpr c3
            have hfin : (bsF (fun L => moF (fun k => crk (yFact r who 1) (nI k) (nI (L % 10)) (nI (L / 10)) (yNext r)) (setB (fun k => allF f1 who (fun n => fit0 r f1 (nI k) n) N1) 10) 10) (fun _ => false) n).1 = (bsF (fun L => moF (fun k => crk (yFact r who 1) (nI k) (nI (L % 10)) (nI (L / 10)) (yNext r)) (setB (fun k => allF f1 who (fun n => fit0 r f1 (nI k) n) N1) 10) 10) (fun _ => false) 210).1 := by rw [bsF_stop (N := 210) (by omega) (Int32.not_lt.mpr c3)]
            refine lv_iload hx hb dX2_best_96 (lv_at hl 5 rfl) ?_
            exact ret_rxi (S := (Nat → Int32)) ux hx hb hr hlk (by rw [if_neg c1]; try exact hfin) (hP) hS dX2_best_98
          · skip
            have c3' := Int32.not_le.mp c3
            have hfew : 1 < (bsF (fun L => moF (fun k => crk (yFact r who 1) (nI k) (nI (L % 10)) (nI (L / 10)) (yNext r)) (setB (fun k => allF f1 who (fun n => fit0 r f1 (nI k) n) N1) 10) 10) (fun _ => false) n).2 := Int32.not_le.mp c3
            refine lv_iload_n hx hb dX2_best_40 rfl (lv_at hl 1 rfl) ?_
            refine lv_iconst (v := 2) hx hb dX2_best_41 rfl ?_
            refine lv_icmp_ne (tgt := 56) hx hb dX2_best_42 (by decide) (fun c4 => ?_) (fun c4 => ?_)
            · skip
              refine lv_aload_n hx hb dX2_best_56 rfl (lv_at hl 0 rfl) ?_
              refine lv_iload_n hx hb dX2_best_57 rfl (lv_at hl 1 rfl) ?_
              refine lv_aload_n hx hb dX2_best_58 rfl (lv_at hl 2 rfl) ?_
              refine kget hC.1 hK (kP_app.mp (kP_app.mp hP).2).1 0 rfl rfl in_1 0 (by decide) (gw_in m_181 rfl) rfl dX2_best_59 ?_
              refine lv_iload_n hx hb dX2_best_62 rfl (lv_at hl 3 rfl) ?_
              refine lv_iload hx hb dX2_best_63 (lv_at hl 4 rfl) ?_
              refine lv_iload hx hb dX2_best_65 (lv_at hl 7 rfl) ?_
              have hP : kP g (uW g u ux ++ (yW g ay r ++ (gW g a (ay 0) (ap 0) (b1 0) (b2 0) (b3 0) ++ (pW g ap N f ++ (rW g b1 N1 l1 f1 ++ (rW g b2 N2 l2 f2 ++ (rW g b3 N3 l3 f3 ++ []))))))) _ := kP_perm (pmA _ (pm_swap _ _ _)) hP
              have hD : va_D _ (uW g u ux ++ (yW g ay r ++ (gW g a (ay 0) (ap 0) (b1 0) (b2 0) (b3 0) ++ (pW g ap N f ++ (rW g b1 N1 l1 f1 ++ (rW g b2 N2 l2 f2 ++ (rW g b3 N3 l3 f3 ++ []))))))) := vD_perm (pmA _ (pm_swap _ _ _)) hD
              refine rx_i (run_V (As := [.int (0), .ref (ay 0), .int (who), .int (setB (fun k => allF f1 who (fun n => fit0 r f1 (nI k) n) N1) 10), .int (nI n)]) (rest := []) hC.1 ckX2_mostAlike (kX2_mostAlike_0 l g u ux ay r who (setB (fun k => allF f1 who (fun n => fit0 r f1 (nI k) n) N1) 10) n hw hn9) (gw_in m_785 rfl) (fb_rw _ _ _) (va_recv hK.1 (kP_app.mp hP).1 (q0 := 0) rfl rfl) (fun U hU hW => ⟨by rw [hU]; exact (kP_app.mpr ⟨(kP_app.mp hP).1, (kP_app.mpr ⟨(kP_app.mp (kP_app.mp hP).2).1, kP_nil⟩)⟩), kK_warm hW hK, vD_sub (sbA _ (sbA _ (sb0 _))) hD⟩) ⟨rfl, rfl, Nat.le_of_ble_eq_true rfl, Nat.le_of_ble_eq_true rfl⟩ rfl hl.1 rfl (Nat.le_of_ble_eq_true rfl) dX2_best_67 ⟨Nat.le_of_ble_eq_true rfl, Nat.le_of_ble_eq_true rfl⟩) (fun u => (adr_app rfl (adr_app rfl rfl))) (asc2 _ _ _) (ww' := fun u9 : (Nat → Int32) => uW g u u9 ++ (yW g ay r ++ (gW g a (ay 0) (ap 0) (b1 0) (b2 0) (b3 0) ++ (pW g ap N f ++ (rW g b1 N1 l1 f1 ++ (rW g b2 N2 l2 f2 ++ (rW g b3 N3 l3 f3 ++ []))))))) (fun u => asc2 _ _ _) hP hD hS (fun u H locs hP hD hS => ?_)
              obtain ⟨x5, rfl⟩ : ∃ z, z = u := ⟨_, rfl⟩
              have hP : kP g (uW g u x5 ++ (yW g ay r ++ (gW g a (ay 0) (ap 0) (b1 0) (b2 0) (b3 0) ++ (pW g ap N f ++ (rW g b1 N1 l1 f1 ++ (rW g b2 N2 l2 f2 ++ (rW g b3 N3 l3 f3 ++ []))))))) H := hP
              have hD : va_D _ (uW g u x5 ++ (yW g ay r ++ (gW g a (ay 0) (ap 0) (b1 0) (b2 0) (b3 0) ++ (pW g ap N f ++ (rW g b1 N1 l1 f1 ++ (rW g b2 N2 l2 f2 ++ (rW g b3 N3 l3 f3 ++ []))))))) := hD
              refine top_i (x := moF (fun k => crk (yFact r who 1) (nI k) (nI (n % 10)) (nI (n / 10)) (yNext r)) (setB (fun k => allF f1 who (fun n => fit0 r f1 (nI k) n) N1) 10) 10) (y := (fun L => moF (fun k => crk (yFact r who 1) (nI k) (nI (L % 10)) (nI (L / 10)) (yNext r)) (setB (fun k => allF f1 who (fun n => fit0 r f1 (nI k) n) N1) 10) 10) n) rfl ?_
              refine lv_istore (lv' := [(8, .int ((fun L => moF (fun k => crk (yFact r who 1) (nI k) (nI (L % 10)) (nI (L / 10)) (yNext r)) (setB (fun k => allF f1 who (fun n => fit0 r f1 (nI k) n) N1) 10) 10) n)), (0, .ref (u 0)), (1, .int (0)), (2, .ref (a 0)), (3, .int (who)), (4, .int (setB (fun k => allF f1 who (fun n => fit0 r f1 (nI k) n) N1) 10)), (5, .int ((bsF (fun L => moF (fun k => crk (yFact r who 1) (nI k) (nI (L % 10)) (nI (L / 10)) (yNext r)) (setB (fun k => allF f1 who (fun n => fit0 r f1 (nI k) n) N1) 10) 10) (fun _ => false) n).1)), (6, .int ((bsF (fun L => moF (fun k => crk (yFact r who 1) (nI k) (nI (L % 10)) (nI (L / 10)) (yNext r)) (setB (fun k => allF f1 who (fun n => fit0 r f1 (nI k) n) N1) 10) 10) (fun _ => false) n).2)), (7, .int (nI n))]) hx hb dX2_best_70 hl (by decide) rfl (fun ls hl => ?_)
              refine lv_iload hx hb dX2_best_72 (lv_at hl 0 rfl) ?_
              refine lv_iload hx hb dX2_best_74 (lv_at hl 7 rfl) ?_
              refine lv_icmp_lt (tgt := 82) hx hb dX2_best_76 (by decide) (fun c6 => ?_) (fun c6 => ?_)
              · skip
                have c6' := Int32.not_le.mpr c6
                refine lv_iload hx hb dX2_best_82 (lv_at hl 0 rfl) ?_
                refine lv_istore (lv' := [(6, .int ((fun L => moF (fun k => crk (yFact r who 1) (nI k) (nI (L % 10)) (nI (L / 10)) (yNext r)) (setB (fun k => allF f1 who (fun n => fit0 r f1 (nI k) n) N1) 10) 10) n)), (8, .int ((fun L => moF (fun k => crk (yFact r who 1) (nI k) (nI (L % 10)) (nI (L / 10)) (yNext r)) (setB (fun k => allF f1 who (fun n => fit0 r f1 (nI k) n) N1) 10) 10) n)), (0, .ref (u 0)), (1, .int (0)), (2, .ref (a 0)), (3, .int (who)), (4, .int (setB (fun k => allF f1 who (fun n => fit0 r f1 (nI k) n) N1) 10)), (5, .int ((bsF (fun L => moF (fun k => crk (yFact r who 1) (nI k) (nI (L % 10)) (nI (L / 10)) (yNext r)) (setB (fun k => allF f1 who (fun n => fit0 r f1 (nI k) n) N1) 10) 10) (fun _ => false) n).1)), (7, .int (nI n))]) hx hb dX2_best_84 hl (by decide) rfl (fun ls hl => ?_)
                refine lv_iload hx hb dX2_best_86 (lv_at hl 8 rfl) ?_
                refine lv_istore (lv' := [(5, .int (nI n)), (6, .int ((fun L => moF (fun k => crk (yFact r who 1) (nI k) (nI (L % 10)) (nI (L / 10)) (yNext r)) (setB (fun k => allF f1 who (fun n => fit0 r f1 (nI k) n) N1) 10) 10) n)), (8, .int ((fun L => moF (fun k => crk (yFact r who 1) (nI k) (nI (L % 10)) (nI (L / 10)) (yNext r)) (setB (fun k => allF f1 who (fun n => fit0 r f1 (nI k) n) N1) 10) 10) n)), (0, .ref (u 0)), (1, .int (0)), (2, .ref (a 0)), (3, .int (who)), (4, .int (setB (fun k => allF f1 who (fun n => fit0 r f1 (nI k) n) N1) 10)), (7, .int (nI n))]) hx hb dX2_best_88 hl (by decide) rfl (fun ls hl => ?_)
                refine lv_iinc (v := nI (n + 1)) (lv' := [(7, .int (nI (n + 1))), (5, .int (nI n)), (6, .int ((fun L => moF (fun k => crk (yFact r who 1) (nI k) (nI (L % 10)) (nI (L / 10)) (yNext r)) (setB (fun k => allF f1 who (fun n => fit0 r f1 (nI k) n) N1) 10) 10) n)), (8, .int ((fun L => moF (fun k => crk (yFact r who 1) (nI k) (nI (L % 10)) (nI (L / 10)) (yNext r)) (setB (fun k => allF f1 who (fun n => fit0 r f1 (nI k) n) N1) 10) 10) n)), (0, .ref (u 0)), (1, .int (0)), (2, .ref (a 0)), (3, .int (who)), (4, .int (setB (fun k => allF f1 who (fun n => fit0 r f1 (nI k) n) N1) 10))]) hx hb dX2_best_90 hl (k := 8) rfl (inc_nI n) (by decide) rfl (fun ls hl => ?_)
                refine lv_goto (tgt := 26) hx hb dX2_best_93 (by decide) ?_
                have e9 : bsF (fun L => moF (fun k => crk (yFact r who 1) (nI k) (nI (L % 10)) (nI (L / 10)) (yNext r)) (setB (fun k => allF f1 who (fun n => fit0 r f1 (nI k) n) N1) 10) 10) (fun _ => false) (n + 1) = (nI n, (fun L => moF (fun k => crk (yFact r who 1) (nI k) (nI (L % 10)) (nI (L / 10)) (yNext r)) (setB (fun k => allF f1 who (fun n => fit0 r f1 (nI k) n) N1) 10) 10) n) := bsF_yes hfew rfl c6
                have hl : lv_has ls 9 [(7, .int (nI (n + 1))), (5, .int ((bsF (fun L => moF (fun k => crk (yFact r who 1) (nI k) (nI (L % 10)) (nI (L / 10)) (yNext r)) (setB (fun k => allF f1 who (fun n => fit0 r f1 (nI k) n) N1) 10) 10) (fun _ => false) (n + 1)).1)), (6, .int ((bsF (fun L => moF (fun k => crk (yFact r who 1) (nI k) (nI (L % 10)) (nI (L / 10)) (yNext r)) (setB (fun k => allF f1 who (fun n => fit0 r f1 (nI k) n) N1) 10) 10) (fun _ => false) (n + 1)).2)), (8, .int ((fun L => moF (fun k => crk (yFact r who 1) (nI k) (nI (L % 10)) (nI (L / 10)) (yNext r)) (setB (fun k => allF f1 who (fun n => fit0 r f1 (nI k) n) N1) 10) 10) n)), (0, .ref (u 0)), (1, .int (0)), (2, .ref (a 0)), (3, .int (who)), (4, .int (setB (fun k => allF f1 who (fun n => fit0 r f1 (nI k) n) N1) 10))] := by rw [e9]; exact hl
                have hP : kP g (uW g u x5 ++ (gW g a (ay 0) (ap 0) (b1 0) (b2 0) (b3 0) ++ (yW g ay r ++ (pW g ap N f ++ (rW g b1 N1 l1 f1 ++ (rW g b2 N2 l2 f2 ++ (rW g b3 N3 l3 f3 ++ []))))))) _ := kP_perm (pmA _ (pm_swap _ _ _)) hP
                have hD : va_D _ (uW g u x5 ++ (gW g a (ay 0) (ap 0) (b1 0) (b2 0) (b3 0) ++ (yW g ay r ++ (pW g ap N f ++ (rW g b1 N1 l1 f1 ++ (rW g b2 N2 l2 f2 ++ (rW g b3 N3 l3 f3 ++ []))))))) := vD_perm (pmA _ (pm_swap _ _ _)) hD
                exact ih26 (n + 1) x5 (by omega) (by omega) _ _ hP hD hS _ (lv_sub hl [4, 5, 6, 7, 8, 1, 2, 0] rfl)
              · skip
                have c6' := Int32.not_lt.mp c6
                refine lv_goto (tgt := 90) hx hb dX2_best_79 (by decide) ?_
                refine lv_iinc (v := nI (n + 1)) (lv' := [(7, .int (nI (n + 1))), (8, .int ((fun L => moF (fun k => crk (yFact r who 1) (nI k) (nI (L % 10)) (nI (L / 10)) (yNext r)) (setB (fun k => allF f1 who (fun n => fit0 r f1 (nI k) n) N1) 10) 10) n)), (0, .ref (u 0)), (1, .int (0)), (2, .ref (a 0)), (3, .int (who)), (4, .int (setB (fun k => allF f1 who (fun n => fit0 r f1 (nI k) n) N1) 10)), (5, .int ((bsF (fun L => moF (fun k => crk (yFact r who 1) (nI k) (nI (L % 10)) (nI (L / 10)) (yNext r)) (setB (fun k => allF f1 who (fun n => fit0 r f1 (nI k) n) N1) 10) 10) (fun _ => false) n).1)), (6, .int ((bsF (fun L => moF (fun k => crk (yFact r who 1) (nI k) (nI (L % 10)) (nI (L / 10)) (yNext r)) (setB (fun k => allF f1 who (fun n => fit0 r f1 (nI k) n) N1) 10) 10) (fun _ => false) n).2))]) hx hb dX2_best_90 hl (k := 8) rfl (inc_nI n) (by decide) rfl (fun ls hl => ?_)
                refine lv_goto (tgt := 26) hx hb dX2_best_93 (by decide) ?_
                have e9 : bsF (fun L => moF (fun k => crk (yFact r who 1) (nI k) (nI (L % 10)) (nI (L / 10)) (yNext r)) (setB (fun k => allF f1 who (fun n => fit0 r f1 (nI k) n) N1) 10) 10) (fun _ => false) (n + 1) = bsF (fun L => moF (fun k => crk (yFact r who 1) (nI k) (nI (L % 10)) (nI (L / 10)) (yNext r)) (setB (fun k => allF f1 who (fun n => fit0 r f1 (nI k) n) N1) 10) 10) (fun _ => false) n := bsF_no c6
                have hl : lv_has ls 9 [(7, .int (nI (n + 1))), (8, .int ((fun L => moF (fun k => crk (yFact r who 1) (nI k) (nI (L % 10)) (nI (L / 10)) (yNext r)) (setB (fun k => allF f1 who (fun n => fit0 r f1 (nI k) n) N1) 10) 10) n)), (0, .ref (u 0)), (1, .int (0)), (2, .ref (a 0)), (3, .int (who)), (4, .int (setB (fun k => allF f1 who (fun n => fit0 r f1 (nI k) n) N1) 10)), (5, .int ((bsF (fun L => moF (fun k => crk (yFact r who 1) (nI k) (nI (L % 10)) (nI (L / 10)) (yNext r)) (setB (fun k => allF f1 who (fun n => fit0 r f1 (nI k) n) N1) 10) 10) (fun _ => false) (n + 1)).1)), (6, .int ((bsF (fun L => moF (fun k => crk (yFact r who 1) (nI k) (nI (L % 10)) (nI (L / 10)) (yNext r)) (setB (fun k => allF f1 who (fun n => fit0 r f1 (nI k) n) N1) 10) 10) (fun _ => false) (n + 1)).2))] := by rw [e9]; exact hl
                have hP : kP g (uW g u x5 ++ (gW g a (ay 0) (ap 0) (b1 0) (b2 0) (b3 0) ++ (yW g ay r ++ (pW g ap N f ++ (rW g b1 N1 l1 f1 ++ (rW g b2 N2 l2 f2 ++ (rW g b3 N3 l3 f3 ++ []))))))) _ := kP_perm (pmA _ (pm_swap _ _ _)) hP
                have hD : va_D _ (uW g u x5 ++ (gW g a (ay 0) (ap 0) (b1 0) (b2 0) (b3 0) ++ (yW g ay r ++ (pW g ap N f ++ (rW g b1 N1 l1 f1 ++ (rW g b2 N2 l2 f2 ++ (rW g b3 N3 l3 f3 ++ []))))))) := vD_perm (pmA _ (pm_swap _ _ _)) hD
                exact ih26 (n + 1) x5 (by omega) (by omega) _ _ hP hD hS _ (lv_sub hl [2, 3, 4, 5, 6, 7, 8, 0] rfl)
            · skip
              exact absurd c4 (by decide)
    exact cut26 _ 0 uf (Nat.lt_succ_self _) (by omega) _ _ hP hD hS _ (lv_sub hl [4, 5, 6, 7, 3, 2, 1, 0] rfl)
  · skip
    refine lv_iconst (v := -1) hx hb dX2_best_14 rfl ?_
    exact ret_rxi (S := (Nat → Int32)) uf hx hb hr hlk (by rw [if_pos c1]) (hP) hS dX2_best_15
set_option maxHeartbeats 4000000 in
set_option maxRecDepth 100000 in
theorem kX2_best_1 (l : Launch) (g : gG) (u : Nat → Nat) (uf : Nat → Int32) (a ay ap b1 b2 b3 : Nat → Nat) (r : Nat → Int32) (N : Nat) (f : Nat → Int32) (N1 N2 N3 : Nat) (l1 l2 l3 : Int32) (f1 f2 f3 : Nat → Int32) (who : Int32) (hw : Wf r) (hN : N2 ≤ 6) (hf : ∀ n, n < N2 → bd (f2 (6 * n + 1)) 0 9 ∧ bd (f2 (6 * n + 4)) 0 44) (hn0 : yNut r who = true) : Met l yX2_best (.code yX2_best cX2_best 9 (some .int) :: gw) (rmN 7) (va_Pc [.ref (u 0), .int (1), .ref (a 0), .int (who)] (rwPre g (uW g u uf ++ (gW g a (ay 0) (ap 0) (b1 0) (b2 0) (b3 0) ++ (yW g ay r ++ (pW g ap N f ++ (rW g b1 N1 l1 f1 ++ (rW g b2 N2 l2 f2 ++ (rW g b3 N3 l3 f3 ++ []))))))))) (rxQi g (uW g u uf ++ (gW g a (ay 0) (ap 0) (b1 0) (b2 0) (b3 0) ++ (yW g ay r ++ (pW g ap N f ++ (rW g b1 N1 l1 f1 ++ (rW g b2 N2 l2 f2 ++ (rW g b3 N3 l3 f3 ++ []))))))) (fun u9 : (Nat → Int32) => uW g u u9 ++ (gW g a (ay 0) (ap 0) (b1 0) (b2 0) (b3 0) ++ (yW g ay r ++ (pW g ap N f ++ (rW g b1 N1 l1 f1 ++ (rW g b2 N2 l2 f2 ++ (rW g b3 N3 l3 f3 ++ []))))))) (if setB (fun k => allF f2 who (fun n => fit1 f2 (nI k) n) N2) 6 = 0 then -1 else (bsF (fun L => moF (fun k => crk (nI k) (yFact r who 2) (nI (L % 10)) (nI (L / 10)) (yNext r)) (setB (fun k => allF f2 who (fun n => fit1 f2 (nI k) n) N2) 6) 10) (fun _ => false) 210).1)) 0 0 (dm (uW g u uf ++ (gW g a (ay 0) (ap 0) (b1 0) (b2 0) (b3 0) ++ (yW g ay r ++ (pW g ap N f ++ (rW g b1 N1 l1 f1 ++ (rW g b2 N2 l2 f2 ++ (rW g b3 N3 l3 f3 ++ [])))))))) := by
  refine met_start (by decide) (Nat.le_of_ble_eq_true rfl) ?_
  intro pp ee ss mm bl mt cd hC hpre ls hl
  obtain ⟨⟨hx, hb, hml, hown, hts⟩, hr, hlk, hnm⟩ := id hC
  have hl : lv_has ls 9 [(0, .ref (u 0)), (1, .int (1)), (2, .ref (a 0)), (3, .int (who))] := hl
  obtain ⟨hP, hK, hD⟩ := hpre
  have hS : va_S (dm (uW g u uf ++ (gW g a (ay 0) (ap 0) (b1 0) (b2 0) (b3 0) ++ (yW g ay r ++ (pW g ap N f ++ (rW g b1 N1 l1 f1 ++ (rW g b2 N2 l2 f2 ++ (rW g b3 N3 l3 f3 ++ [])))))))) ss.heap ss.heap [] := va_S.rf
  have hD := vD_self hD
  refine lv_aload_n hx hb dX2_best_0 rfl (lv_at hl 0 rfl) ?_
  refine lv_iload_n hx hb dX2_best_1 rfl (lv_at hl 1 rfl) ?_
  refine lv_aload_n hx hb dX2_best_2 rfl (lv_at hl 2 rfl) ?_
  refine lv_iload_n hx hb dX2_best_3 rfl (lv_at hl 3 rfl) ?_
  refine ro_i (run_V (As := [.int (1), .ref (a 0), .int (who)]) (rest := []) hC.1 ckX2_thatFit (kX2_thatFit_1 l g u uf a ay ap b1 b2 b3 r N f N1 N2 N3 l1 l2 l3 f1 f2 f3 who hw hN hf) (gw_in m_784 rfl) (fb_ro _ _ _) (va_recv hK.1 (kP_app.mp hP).1 (q0 := 0) rfl rfl) (fun U hU hW => ⟨by rw [hU]; exact (kP_app.mpr ⟨(kP_app.mp hP).1, (kP_app.mpr ⟨(kP_app.mp (kP_app.mp hP).2).1, (kP_app.mpr ⟨(kP_app.mp (kP_app.mp (kP_app.mp hP).2).2).1, (kP_app.mpr ⟨(kP_app.mp (kP_app.mp (kP_app.mp (kP_app.mp hP).2).2).2).1, (kP_app.mpr ⟨(kP_app.mp (kP_app.mp (kP_app.mp (kP_app.mp (kP_app.mp hP).2).2).2).2).1, (kP_app.mpr ⟨(kP_app.mp (kP_app.mp (kP_app.mp (kP_app.mp (kP_app.mp (kP_app.mp hP).2).2).2).2).2).1, (kP_app.mpr ⟨(kP_app.mp (kP_app.mp (kP_app.mp (kP_app.mp (kP_app.mp (kP_app.mp (kP_app.mp hP).2).2).2).2).2).2).1, (kP_mem.mpr (fun _ h => absurd h List.not_mem_nil))⟩)⟩)⟩)⟩)⟩)⟩)⟩), kK_warm hW hK⟩) ⟨rfl, rfl, Nat.le_of_ble_eq_true rfl, Nat.le_of_ble_eq_true rfl⟩ rfl hl.1 rfl (Nat.le_of_ble_eq_true rfl) dX2_best_4 ⟨Nat.le_of_ble_eq_true rfl, Nat.le_of_ble_eq_true rfl⟩) ?_
  refine lv_istore (lv' := [(4, .int (setB (fun k => allF f2 who (fun n => fit1 f2 (nI k) n) N2) 6)), (0, .ref (u 0)), (1, .int (1)), (2, .ref (a 0)), (3, .int (who))]) hx hb dX2_best_7 hl (by decide) rfl (fun ls hl => ?_)
  refine lv_iload hx hb dX2_best_9 (lv_at hl 0 rfl) ?_
  refine lv_if_ne (tgt := 16) hx hb dX2_best_11 (by decide) (fun c1 => ?_) (fun c1 => ?_)
  · skip
    refine lv_iconst (v := -1) hx hb dX2_best_16 rfl ?_
    refine lv_istore (lv' := [(5, .int (-1)), (4, .int (setB (fun k => allF f2 who (fun n => fit1 f2 (nI k) n) N2) 6)), (0, .ref (u 0)), (1, .int (1)), (2, .ref (a 0)), (3, .int (who))]) hx hb dX2_best_17 hl (by decide) rfl (fun ls hl => ?_)
    refine lv_bipush (v := 11) hx hb dX2_best_19 rfl ?_
    refine lv_istore (lv' := [(6, .int (11)), (5, .int (-1)), (4, .int (setB (fun k => allF f2 who (fun n => fit1 f2 (nI k) n) N2) 6)), (0, .ref (u 0)), (1, .int (1)), (2, .ref (a 0)), (3, .int (who))]) hx hb dX2_best_21 hl (by decide) rfl (fun ls hl => ?_)
    refine lv_iconst (v := 0) hx hb dX2_best_23 rfl ?_
    refine lv_istore (lv' := [(7, .int (0)), (6, .int (11)), (5, .int (-1)), (4, .int (setB (fun k => allF f2 who (fun n => fit1 f2 (nI k) n) N2) 6)), (0, .ref (u 0)), (1, .int (1)), (2, .ref (a 0)), (3, .int (who))]) hx hb dX2_best_24 hl (by decide) rfl (fun ls hl => ?_)
    have cut26 : ∀ kk : Nat, ∀ (n : Nat) (ux : Nat → Int32), 211 - n < kk → (hn : n ≤ 210) → ∀ (H : Heap) (locs : List Loc), kP g (uW g u ux ++ (gW g a (ay 0) (ap 0) (b1 0) (b2 0) (b3 0) ++ (yW g ay r ++ (pW g ap N f ++ (rW g b1 N1 l1 f1 ++ (rW g b2 N2 l2 f2 ++ (rW g b3 N3 l3 f3 ++ []))))))) H → va_D (dm (uW g u uf ++ (gW g a (ay 0) (ap 0) (b1 0) (b2 0) (b3 0) ++ (yW g ay r ++ (pW g ap N f ++ (rW g b1 N1 l1 f1 ++ (rW g b2 N2 l2 f2 ++ (rW g b3 N3 l3 f3 ++ [])))))))) (uW g u ux ++ (gW g a (ay 0) (ap 0) (b1 0) (b2 0) (b3 0) ++ (yW g ay r ++ (pW g ap N f ++ (rW g b1 N1 l1 f1 ++ (rW g b2 N2 l2 f2 ++ (rW g b3 N3 l3 f3 ++ []))))))) → va_S (dm (uW g u uf ++ (gW g a (ay 0) (ap 0) (b1 0) (b2 0) (b3 0) ++ (yW g ay r ++ (pW g ap N f ++ (rW g b1 N1 l1 f1 ++ (rW g b2 N2 l2 f2 ++ (rW g b3 N3 l3 f3 ++ [])))))))) ss.heap H locs → ∀ (ls : Array Slot), lv_has ls 9 [(0, .ref (u 0)), (1, .int (1)), (2, .ref (a 0)), (3, .int (who)), (4, .int (setB (fun k => allF f2 who (fun n => fit1 f2 (nI k) n) N2) 6)), (5, .int ((bsF (fun L => moF (fun k => crk (nI k) (yFact r who 2) (nI (L % 10)) (nI (L / 10)) (yNext r)) (setB (fun k => allF f2 who (fun n => fit1 f2 (nI k) n) N2) 6) 10) (fun _ => false) n).1)), (6, .int ((bsF (fun L => moF (fun k => crk (nI k) (yFact r who 2) (nI (L % 10)) (nI (L / 10)) (yNext r)) (setB (fun k => allF f2 who (fun n => fit1 f2 (nI k) n) N2) 6) 10) (fun _ => false) n).2)), (7, .int (nI n))] → W pp l ee (rmN 7) ss mm ([.ref (u 0), .int (1), .ref (a 0), .int (who)] : List Value).toArray bl mt cd H locs 0 0 (MQ bl (rxQi g (uW g u uf ++ (gW g a (ay 0) (ap 0) (b1 0) (b2 0) (b3 0) ++ (yW g ay r ++ (pW g ap N f ++ (rW g b1 N1 l1 f1 ++ (rW g b2 N2 l2 f2 ++ (rW g b3 N3 l3 f3 ++ []))))))) (fun u9 : (Nat → Int32) => uW g u u9 ++ (gW g a (ay 0) (ap 0) (b1 0) (b2 0) (b3 0) ++ (yW g ay r ++ (pW g ap N f ++ (rW g b1 N1 l1 f1 ++ (rW g b2 N2 l2 f2 ++ (rW g b3 N3 l3 f3 ++ []))))))) (if setB (fun k => allF f2 who (fun n => fit1 f2 (nI k) n) N2) 6 = 0 then -1 else (bsF (fun L => moF (fun k => crk (nI k) (yFact r who 2) (nI (L % 10)) (nI (L / 10)) (yNext r)) (setB (fun k => allF f2 who (fun n => fit1 f2 (nI k) n) N2) 6) 10) (fun _ => false) 210).1)) ([.ref (u 0), .int (1), .ref (a 0), .int (who)] : List Value).toArray ss 0 0 (dm (uW g u uf ++ (gW g a (ay 0) (ap 0) (b1 0) (b2 0) (b3 0) ++ (yW g ay r ++ (pW g ap N f ++ (rW g b1 N1 l1 f1 ++ (rW g b2 N2 l2 f2 ++ (rW g b3 N3 l3 f3 ++ []))))))))) (F0 mm 26 ls []) := by
      intro kk
      induction kk with
      | zero => intro n ux hmu; exact absurd hmu (Nat.not_lt_zero _)
      | succ kk ih26 =>
        intro n ux hmu hn H locs hP hD hS ls hl
        refine lv_iload hx hb dX2_best_26 (lv_at hl 7 rfl) ?_
        refine lv_sipush (v := 210) hx hb dX2_best_28 rfl ?_
        refine lv_icmp_ge (tgt := 96) hx hb dX2_best_31 (by decide) (fun c2 => ?_) (fun c2 => ?_)
        · skip
          have c2' := Int32.not_lt.mpr c2
          have hn9 : n = 210 := by have := lp_ge (by omega) c2; rw [show (210 : Int32).toInt = 210 from rfl] at this; omega
          subst hn9
          have hfin : (bsF (fun L => moF (fun k => crk (nI k) (yFact r who 2) (nI (L % 10)) (nI (L / 10)) (yNext r)) (setB (fun k => allF f2 who (fun n => fit1 f2 (nI k) n) N2) 6) 10) (fun _ => false) 210).1 = (bsF (fun L => moF (fun k => crk (nI k) (yFact r who 2) (nI (L % 10)) (nI (L / 10)) (yNext r)) (setB (fun k => allF f2 who (fun n => fit1 f2 (nI k) n) N2) 6) 10) (fun _ => false) 210).1 := rfl
          refine lv_iload hx hb dX2_best_96 (lv_at hl 5 rfl) ?_
          exact ret_rxi (S := (Nat → Int32)) ux hx hb hr hlk (by rw [if_neg c1]; try exact hfin) (hP) hS dX2_best_98
        · skip
          have c2' := Int32.not_le.mp c2
          have hn9 : n < 210 := by have := lp_lt (by omega) c2; rw [show (210 : Int32).toInt = 210 from rfl] at this; omega
          refine lv_iload hx hb dX2_best_34 (lv_at hl 6 rfl) ?_
          refine lv_iconst (v := 1) hx hb dX2_best_36 rfl ?_
          refine lv_icmp_le (tgt := 96) hx hb dX2_best_37 (by decide) (fun c3 => ?_) (fun c3 => ?_)
          · skip
            have c3' := Int32.not_lt.mpr c3
            have hfin : (bsF (fun L => moF (fun k => crk (nI k) (yFact r who 2) (nI (L % 10)) (nI (L / 10)) (yNext r)) (setB (fun k => allF f2 who (fun n => fit1 f2 (nI k) n) N2) 6) 10) (fun _ => false) n).1 = (bsF (fun L => moF (fun k => crk (nI k) (yFact r who 2) (nI (L % 10)) (nI (L / 10)) (yNext r)) (setB (fun k => allF f2 who (fun n => fit1 f2 (nI k) n) N2) 6) 10) (fun _ => false) 210).1 := by rw [bsF_stop (N := 210) (by omega) (Int32.not_lt.mpr c3)]
            refine lv_iload hx hb dX2_best_96 (lv_at hl 5 rfl) ?_
            exact ret_rxi (S := (Nat → Int32)) ux hx hb hr hlk (by rw [if_neg c1]; try exact hfin) (hP) hS dX2_best_98
          · skip
            have c3' := Int32.not_le.mp c3
            have hfew : 1 < (bsF (fun L => moF (fun k => crk (nI k) (yFact r who 2) (nI (L % 10)) (nI (L / 10)) (yNext r)) (setB (fun k => allF f2 who (fun n => fit1 f2 (nI k) n) N2) 6) 10) (fun _ => false) n).2 := Int32.not_le.mp c3
            refine lv_iload_n hx hb dX2_best_40 rfl (lv_at hl 1 rfl) ?_
            refine lv_iconst (v := 2) hx hb dX2_best_41 rfl ?_
            refine lv_icmp_ne (tgt := 56) hx hb dX2_best_42 (by decide) (fun c4 => ?_) (fun c4 => ?_)
            · skip
              refine lv_aload_n hx hb dX2_best_56 rfl (lv_at hl 0 rfl) ?_
              refine lv_iload_n hx hb dX2_best_57 rfl (lv_at hl 1 rfl) ?_
              refine lv_aload_n hx hb dX2_best_58 rfl (lv_at hl 2 rfl) ?_
              refine kget hC.1 hK (kP_app.mp (kP_app.mp hP).2).1 0 rfl rfl in_1 0 (by decide) (gw_in m_181 rfl) rfl dX2_best_59 ?_
              refine lv_iload_n hx hb dX2_best_62 rfl (lv_at hl 3 rfl) ?_
              refine lv_iload hx hb dX2_best_63 (lv_at hl 4 rfl) ?_
              refine lv_iload hx hb dX2_best_65 (lv_at hl 7 rfl) ?_
              have hP : kP g (uW g u ux ++ (yW g ay r ++ (gW g a (ay 0) (ap 0) (b1 0) (b2 0) (b3 0) ++ (pW g ap N f ++ (rW g b1 N1 l1 f1 ++ (rW g b2 N2 l2 f2 ++ (rW g b3 N3 l3 f3 ++ []))))))) _ := kP_perm (pmA _ (pm_swap _ _ _)) hP
              have hD : va_D _ (uW g u ux ++ (yW g ay r ++ (gW g a (ay 0) (ap 0) (b1 0) (b2 0) (b3 0) ++ (pW g ap N f ++ (rW g b1 N1 l1 f1 ++ (rW g b2 N2 l2 f2 ++ (rW g b3 N3 l3 f3 ++ []))))))) := vD_perm (pmA _ (pm_swap _ _ _)) hD
              refine rx_i (run_V (As := [.int (1), .ref (ay 0), .int (who), .int (setB (fun k => allF f2 who (fun n => fit1 f2 (nI k) n) N2) 6), .int (nI n)]) (rest := []) hC.1 ckX2_mostAlike (kX2_mostAlike_1 l g u ux ay r who (setB (fun k => allF f2 who (fun n => fit1 f2 (nI k) n) N2) 6) n hw hn9 hn0) (gw_in m_785 rfl) (fb_rw _ _ _) (va_recv hK.1 (kP_app.mp hP).1 (q0 := 0) rfl rfl) (fun U hU hW => ⟨by rw [hU]; exact (kP_app.mpr ⟨(kP_app.mp hP).1, (kP_app.mpr ⟨(kP_app.mp (kP_app.mp hP).2).1, kP_nil⟩)⟩), kK_warm hW hK, vD_sub (sbA _ (sbA _ (sb0 _))) hD⟩) ⟨rfl, rfl, Nat.le_of_ble_eq_true rfl, Nat.le_of_ble_eq_true rfl⟩ rfl hl.1 rfl (Nat.le_of_ble_eq_true rfl) dX2_best_67 ⟨Nat.le_of_ble_eq_true rfl, Nat.le_of_ble_eq_true rfl⟩) (fun u => (adr_app rfl (adr_app rfl rfl))) (asc2 _ _ _) (ww' := fun u9 : (Nat → Int32) => uW g u u9 ++ (yW g ay r ++ (gW g a (ay 0) (ap 0) (b1 0) (b2 0) (b3 0) ++ (pW g ap N f ++ (rW g b1 N1 l1 f1 ++ (rW g b2 N2 l2 f2 ++ (rW g b3 N3 l3 f3 ++ []))))))) (fun u => asc2 _ _ _) hP hD hS (fun u H locs hP hD hS => ?_)
              obtain ⟨x5, rfl⟩ : ∃ z, z = u := ⟨_, rfl⟩
              have hP : kP g (uW g u x5 ++ (yW g ay r ++ (gW g a (ay 0) (ap 0) (b1 0) (b2 0) (b3 0) ++ (pW g ap N f ++ (rW g b1 N1 l1 f1 ++ (rW g b2 N2 l2 f2 ++ (rW g b3 N3 l3 f3 ++ []))))))) H := hP
              have hD : va_D _ (uW g u x5 ++ (yW g ay r ++ (gW g a (ay 0) (ap 0) (b1 0) (b2 0) (b3 0) ++ (pW g ap N f ++ (rW g b1 N1 l1 f1 ++ (rW g b2 N2 l2 f2 ++ (rW g b3 N3 l3 f3 ++ []))))))) := hD
              refine top_i (x := moF (fun k => crk (nI k) (yFact r who 2) (nI (n % 10)) (nI (n / 10)) (yNext r)) (setB (fun k => allF f2 who (fun n => fit1 f2 (nI k) n) N2) 6) 10) (y := (fun L => moF (fun k => crk (nI k) (yFact r who 2) (nI (L % 10)) (nI (L / 10)) (yNext r)) (setB (fun k => allF f2 who (fun n => fit1 f2 (nI k) n) N2) 6) 10) n) rfl ?_
              refine lv_istore (lv' := [(8, .int ((fun L => moF (fun k => crk (nI k) (yFact r who 2) (nI (L % 10)) (nI (L / 10)) (yNext r)) (setB (fun k => allF f2 who (fun n => fit1 f2 (nI k) n) N2) 6) 10) n)), (0, .ref (u 0)), (1, .int (1)), (2, .ref (a 0)), (3, .int (who)), (4, .int (setB (fun k => allF f2 who (fun n => fit1 f2 (nI k) n) N2) 6)), (5, .int ((bsF (fun L => moF (fun k => crk (nI k) (yFact r who 2) (nI (L % 10)) (nI (L / 10)) (yNext r)) (setB (fun k => allF f2 who (fun n => fit1 f2 (nI k) n) N2) 6) 10) (fun _ => false) n).1)), (6, .int ((bsF (fun L => moF (fun k => crk (nI k) (yFact r who 2) (nI (L % 10)) (nI (L / 10)) (yNext r)) (setB (fun k => allF f2 who (fun n => fit1 f2 (nI k) n) N2) 6) 10) (fun _ => false) n).2)), (7, .int (nI n))]) hx hb dX2_best_70 hl (by decide) rfl (fun ls hl => ?_)
              refine lv_iload hx hb dX2_best_72 (lv_at hl 0 rfl) ?_
              refine lv_iload hx hb dX2_best_74 (lv_at hl 7 rfl) ?_
              refine lv_icmp_lt (tgt := 82) hx hb dX2_best_76 (by decide) (fun c6 => ?_) (fun c6 => ?_)
              · skip
                have c6' := Int32.not_le.mpr c6
                refine lv_iload hx hb dX2_best_82 (lv_at hl 0 rfl) ?_
                refine lv_istore (lv' := [(6, .int ((fun L => moF (fun k => crk (nI k) (yFact r who 2) (nI (L % 10)) (nI (L / 10)) (yNext r)) (setB (fun k => allF f2 who (fun n => fit1 f2 (nI k) n) N2) 6) 10) n)), (8, .int ((fun L => moF (fun k => crk (nI k) (yFact r who 2) (nI (L % 10)) (nI (L / 10)) (yNext r)) (setB (fun k => allF f2 who (fun n => fit1 f2 (nI k) n) N2) 6) 10) n)), (0, .ref (u 0)), (1, .int (1)), (2, .ref (a 0)), (3, .int (who)), (4, .int (setB (fun k => allF f2 who (fun n => fit1 f2 (nI k) n) N2) 6)), (5, .int ((bsF (fun L => moF (fun k => crk (nI k) (yFact r who 2) (nI (L % 10)) (nI (L / 10)) (yNext r)) (setB (fun k => allF f2 who (fun n => fit1 f2 (nI k) n) N2) 6) 10) (fun _ => false) n).1)), (7, .int (nI n))]) hx hb dX2_best_84 hl (by decide) rfl (fun ls hl => ?_)
                refine lv_iload hx hb dX2_best_86 (lv_at hl 8 rfl) ?_
                refine lv_istore (lv' := [(5, .int (nI n)), (6, .int ((fun L => moF (fun k => crk (nI k) (yFact r who 2) (nI (L % 10)) (nI (L / 10)) (yNext r)) (setB (fun k => allF f2 who (fun n => fit1 f2 (nI k) n) N2) 6) 10) n)), (8, .int ((fun L => moF (fun k => crk (nI k) (yFact r who 2) (nI (L % 10)) (nI (L / 10)) (yNext r)) (setB (fun k => allF f2 who (fun n => fit1 f2 (nI k) n) N2) 6) 10) n)), (0, .ref (u 0)), (1, .int (1)), (2, .ref (a 0)), (3, .int (who)), (4, .int (setB (fun k => allF f2 who (fun n => fit1 f2 (nI k) n) N2) 6)), (7, .int (nI n))]) hx hb dX2_best_88 hl (by decide) rfl (fun ls hl => ?_)
                refine lv_iinc (v := nI (n + 1)) (lv' := [(7, .int (nI (n + 1))), (5, .int (nI n)), (6, .int ((fun L => moF (fun k => crk (nI k) (yFact r who 2) (nI (L % 10)) (nI (L / 10)) (yNext r)) (setB (fun k => allF f2 who (fun n => fit1 f2 (nI k) n) N2) 6) 10) n)), (8, .int ((fun L => moF (fun k => crk (nI k) (yFact r who 2) (nI (L % 10)) (nI (L / 10)) (yNext r)) (setB (fun k => allF f2 who (fun n => fit1 f2 (nI k) n) N2) 6) 10) n)), (0, .ref (u 0)), (1, .int (1)), (2, .ref (a 0)), (3, .int (who)), (4, .int (setB (fun k => allF f2 who (fun n => fit1 f2 (nI k) n) N2) 6))]) hx hb dX2_best_90 hl (k := 8) rfl (inc_nI n) (by decide) rfl (fun ls hl => ?_)
                refine lv_goto (tgt := 26) hx hb dX2_best_93 (by decide) ?_
                have e9 : bsF (fun L => moF (fun k => crk (nI k) (yFact r who 2) (nI (L % 10)) (nI (L / 10)) (yNext r)) (setB (fun k => allF f2 who (fun n => fit1 f2 (nI k) n) N2) 6) 10) (fun _ => false) (n + 1) = (nI n, (fun L => moF (fun k => crk (nI k) (yFact r who 2) (nI (L % 10)) (nI (L / 10)) (yNext r)) (setB (fun k => allF f2 who (fun n => fit1 f2 (nI k) n) N2) 6) 10) n) := bsF_yes hfew rfl c6
                have hl : lv_has ls 9 [(7, .int (nI (n + 1))), (5, .int ((bsF (fun L => moF (fun k => crk (nI k) (yFact r who 2) (nI (L % 10)) (nI (L / 10)) (yNext r)) (setB (fun k => allF f2 who (fun n => fit1 f2 (nI k) n) N2) 6) 10) (fun _ => false) (n + 1)).1)), (6, .int ((bsF (fun L => moF (fun k => crk (nI k) (yFact r who 2) (nI (L % 10)) (nI (L / 10)) (yNext r)) (setB (fun k => allF f2 who (fun n => fit1 f2 (nI k) n) N2) 6) 10) (fun _ => false) (n + 1)).2)), (8, .int ((fun L => moF (fun k => crk (nI k) (yFact r who 2) (nI (L % 10)) (nI (L / 10)) (yNext r)) (setB (fun k => allF f2 who (fun n => fit1 f2 (nI k) n) N2) 6) 10) n)), (0, .ref (u 0)), (1, .int (1)), (2, .ref (a 0)), (3, .int (who)), (4, .int (setB (fun k => allF f2 who (fun n => fit1 f2 (nI k) n) N2) 6))] := by rw [e9]; exact hl
                have hP : kP g (uW g u x5 ++ (gW g a (ay 0) (ap 0) (b1 0) (b2 0) (b3 0) ++ (yW g ay r ++ (pW g ap N f ++ (rW g b1 N1 l1 f1 ++ (rW g b2 N2 l2 f2 ++ (rW g b3 N3 l3 f3 ++ []))))))) _ := kP_perm (pmA _ (pm_swap _ _ _)) hP
                have hD : va_D _ (uW g u x5 ++ (gW g a (ay 0) (ap 0) (b1 0) (b2 0) (b3 0) ++ (yW g ay r ++ (pW g ap N f ++ (rW g b1 N1 l1 f1 ++ (rW g b2 N2 l2 f2 ++ (rW g b3 N3 l3 f3 ++ []))))))) := vD_perm (pmA _ (pm_swap _ _ _)) hD
                exact ih26 (n + 1) x5 (by omega) (by omega) _ _ hP hD hS _ (lv_sub hl [4, 5, 6, 7, 8, 1, 2, 0] rfl)
              · skip
                have c6' := Int32.not_lt.mp c6
                refine lv_goto (tgt := 90) hx hb dX2_best_79 (by decide) ?_
                refine lv_iinc (v := nI (n + 1)) (lv' := [(7, .int (nI (n + 1))), (8, .int ((fun L => moF (fun k => crk (nI k) (yFact r who 2) (nI (L % 10)) (nI (L / 10)) (yNext r)) (setB (fun k => allF f2 who (fun n => fit1 f2 (nI k) n) N2) 6) 10) n)), (0, .ref (u 0)), (1, .int (1)), (2, .ref (a 0)), (3, .int (who)), (4, .int (setB (fun k => allF f2 who (fun n => fit1 f2 (nI k) n) N2) 6)), (5, .int ((bsF (fun L => moF (fun k => crk (nI k) (yFact r who 2) (nI (L % 10)) (nI (L / 10)) (yNext r)) (setB (fun k => allF f2 who (fun n => fit1 f2 (nI k) n) N2) 6) 10) (fun _ => false) n).1)), (6, .int ((bsF (fun L => moF (fun k => crk (nI k) (yFact r who 2) (nI (L % 10)) (nI (L / 10)) (yNext r)) (setB (fun k => allF f2 who (fun n => fit1 f2 (nI k) n) N2) 6) 10) (fun _ => false) n).2))]) hx hb dX2_best_90 hl (k := 8) rfl (inc_nI n) (by decide) rfl (fun ls hl => ?_)
                refine lv_goto (tgt := 26) hx hb dX2_best_93 (by decide) ?_
                have e9 : bsF (fun L => moF (fun k => crk (nI k) (yFact r who 2) (nI (L % 10)) (nI (L / 10)) (yNext r)) (setB (fun k => allF f2 who (fun n => fit1 f2 (nI k) n) N2) 6) 10) (fun _ => false) (n + 1) = bsF (fun L => moF (fun k => crk (nI k) (yFact r who 2) (nI (L % 10)) (nI (L / 10)) (yNext r)) (setB (fun k => allF f2 who (fun n => fit1 f2 (nI k) n) N2) 6) 10) (fun _ => false) n := bsF_no c6
                have hl : lv_has ls 9 [(7, .int (nI (n + 1))), (8, .int ((fun L => moF (fun k => crk (nI k) (yFact r who 2) (nI (L % 10)) (nI (L / 10)) (yNext r)) (setB (fun k => allF f2 who (fun n => fit1 f2 (nI k) n) N2) 6) 10) n)), (0, .ref (u 0)), (1, .int (1)), (2, .ref (a 0)), (3, .int (who)), (4, .int (setB (fun k => allF f2 who (fun n => fit1 f2 (nI k) n) N2) 6)), (5, .int ((bsF (fun L => moF (fun k => crk (nI k) (yFact r who 2) (nI (L % 10)) (nI (L / 10)) (yNext r)) (setB (fun k => allF f2 who (fun n => fit1 f2 (nI k) n) N2) 6) 10) (fun _ => false) (n + 1)).1)), (6, .int ((bsF (fun L => moF (fun k => crk (nI k) (yFact r who 2) (nI (L % 10)) (nI (L / 10)) (yNext r)) (setB (fun k => allF f2 who (fun n => fit1 f2 (nI k) n) N2) 6) 10) (fun _ => false) (n + 1)).2))] := by rw [e9]; exact hl
                have hP : kP g (uW g u x5 ++ (gW g a (ay 0) (ap 0) (b1 0) (b2 0) (b3 0) ++ (yW g ay r ++ (pW g ap N f ++ (rW g b1 N1 l1 f1 ++ (rW g b2 N2 l2 f2 ++ (rW g b3 N3 l3 f3 ++ []))))))) _ := kP_perm (pmA _ (pm_swap _ _ _)) hP
                have hD : va_D _ (uW g u x5 ++ (gW g a (ay 0) (ap 0) (b1 0) (b2 0) (b3 0) ++ (yW g ay r ++ (pW g ap N f ++ (rW g b1 N1 l1 f1 ++ (rW g b2 N2 l2 f2 ++ (rW g b3 N3 l3 f3 ++ []))))))) := vD_perm (pmA _ (pm_swap _ _ _)) hD
                exact ih26 (n + 1) x5 (by omega) (by omega) _ _ hP hD hS _ (lv_sub hl [2, 3, 4, 5, 6, 7, 8, 0] rfl)
            · skip
              exact absurd c4 (by decide)
    exact cut26 _ 0 uf (Nat.lt_succ_self _) (by omega) _ _ hP hD hS _ (lv_sub hl [4, 5, 6, 7, 3, 2, 1, 0] rfl)
  · skip
    refine lv_iconst (v := -1) hx hb dX2_best_14 rfl ?_
    exact ret_rxi (S := (Nat → Int32)) uf hx hb hr hlk (by rw [if_pos c1]) (hP) hS dX2_best_15
set_option maxHeartbeats 4000000 in
set_option maxRecDepth 100000 in
theorem kX2_best_2 (l : Launch) (g : gG) (u : Nat → Nat) (uf : Nat → Int32) (a ay ap b1 b2 b3 : Nat → Nat) (r : Nat → Int32) (N : Nat) (f : Nat → Int32) (N1 N2 N3 : Nat) (l1 l2 l3 : Int32) (f1 f2 f3 : Nat → Int32) (who : Int32) (hw : Wf r) (hN : N3 ≤ 6) : Met l yX2_best (.code yX2_best cX2_best 9 (some .int) :: gw) (rmN 7) (va_Pc [.ref (u 0), .int (2), .ref (a 0), .int (who)] (rwPre g (uW g u uf ++ (gW g a (ay 0) (ap 0) (b1 0) (b2 0) (b3 0) ++ (yW g ay r ++ (pW g ap N f ++ (rW g b1 N1 l1 f1 ++ (rW g b2 N2 l2 f2 ++ (rW g b3 N3 l3 f3 ++ []))))))))) (rxQi g (uW g u uf ++ (gW g a (ay 0) (ap 0) (b1 0) (b2 0) (b3 0) ++ (yW g ay r ++ (pW g ap N f ++ (rW g b1 N1 l1 f1 ++ (rW g b2 N2 l2 f2 ++ (rW g b3 N3 l3 f3 ++ []))))))) (fun u9 : (Nat → Int32) => uW g u u9 ++ (gW g a (ay 0) (ap 0) (b1 0) (b2 0) (b3 0) ++ (yW g ay r ++ (pW g ap N f ++ (rW g b1 N1 l1 f1 ++ (rW g b2 N2 l2 f2 ++ (rW g b3 N3 l3 f3 ++ []))))))) (if setB (fun k => allF f3 who (fun n => fit2 f3 (nI k) n) N3) 6 = 0 then -1 else (bsF (fun L => moF (fun k => frc (nI k) (yPF r who 1) (nI (L % 10)) (nI (L / 10))) (setB (fun k => allF f3 who (fun n => fit2 f3 (nI k) n) N3) 6) 10) (fun L => decide (L % 10 = 0)) 210).1)) 0 0 (dm (uW g u uf ++ (gW g a (ay 0) (ap 0) (b1 0) (b2 0) (b3 0) ++ (yW g ay r ++ (pW g ap N f ++ (rW g b1 N1 l1 f1 ++ (rW g b2 N2 l2 f2 ++ (rW g b3 N3 l3 f3 ++ [])))))))) := by
  refine met_start (by decide) (Nat.le_of_ble_eq_true rfl) ?_
  intro pp ee ss mm bl mt cd hC hpre ls hl
  obtain ⟨⟨hx, hb, hml, hown, hts⟩, hr, hlk, hnm⟩ := id hC
  have hl : lv_has ls 9 [(0, .ref (u 0)), (1, .int (2)), (2, .ref (a 0)), (3, .int (who))] := hl
  obtain ⟨hP, hK, hD⟩ := hpre
  have hS : va_S (dm (uW g u uf ++ (gW g a (ay 0) (ap 0) (b1 0) (b2 0) (b3 0) ++ (yW g ay r ++ (pW g ap N f ++ (rW g b1 N1 l1 f1 ++ (rW g b2 N2 l2 f2 ++ (rW g b3 N3 l3 f3 ++ [])))))))) ss.heap ss.heap [] := va_S.rf
  have hD := vD_self hD
  refine lv_aload_n hx hb dX2_best_0 rfl (lv_at hl 0 rfl) ?_
  refine lv_iload_n hx hb dX2_best_1 rfl (lv_at hl 1 rfl) ?_
  refine lv_aload_n hx hb dX2_best_2 rfl (lv_at hl 2 rfl) ?_
  refine lv_iload_n hx hb dX2_best_3 rfl (lv_at hl 3 rfl) ?_
  refine ro_i (run_V (As := [.int (2), .ref (a 0), .int (who)]) (rest := []) hC.1 ckX2_thatFit (kX2_thatFit_2 l g u uf a ay ap b1 b2 b3 r N f N1 N2 N3 l1 l2 l3 f1 f2 f3 who hw hN) (gw_in m_784 rfl) (fb_ro _ _ _) (va_recv hK.1 (kP_app.mp hP).1 (q0 := 0) rfl rfl) (fun U hU hW => ⟨by rw [hU]; exact (kP_app.mpr ⟨(kP_app.mp hP).1, (kP_app.mpr ⟨(kP_app.mp (kP_app.mp hP).2).1, (kP_app.mpr ⟨(kP_app.mp (kP_app.mp (kP_app.mp hP).2).2).1, (kP_app.mpr ⟨(kP_app.mp (kP_app.mp (kP_app.mp (kP_app.mp hP).2).2).2).1, (kP_app.mpr ⟨(kP_app.mp (kP_app.mp (kP_app.mp (kP_app.mp (kP_app.mp hP).2).2).2).2).1, (kP_app.mpr ⟨(kP_app.mp (kP_app.mp (kP_app.mp (kP_app.mp (kP_app.mp (kP_app.mp hP).2).2).2).2).2).1, (kP_app.mpr ⟨(kP_app.mp (kP_app.mp (kP_app.mp (kP_app.mp (kP_app.mp (kP_app.mp (kP_app.mp hP).2).2).2).2).2).2).1, (kP_mem.mpr (fun _ h => absurd h List.not_mem_nil))⟩)⟩)⟩)⟩)⟩)⟩)⟩), kK_warm hW hK⟩) ⟨rfl, rfl, Nat.le_of_ble_eq_true rfl, Nat.le_of_ble_eq_true rfl⟩ rfl hl.1 rfl (Nat.le_of_ble_eq_true rfl) dX2_best_4 ⟨Nat.le_of_ble_eq_true rfl, Nat.le_of_ble_eq_true rfl⟩) ?_
  refine lv_istore (lv' := [(4, .int (setB (fun k => allF f3 who (fun n => fit2 f3 (nI k) n) N3) 6)), (0, .ref (u 0)), (1, .int (2)), (2, .ref (a 0)), (3, .int (who))]) hx hb dX2_best_7 hl (by decide) rfl (fun ls hl => ?_)
  refine lv_iload hx hb dX2_best_9 (lv_at hl 0 rfl) ?_
  refine lv_if_ne (tgt := 16) hx hb dX2_best_11 (by decide) (fun c1 => ?_) (fun c1 => ?_)
  · skip
    refine lv_iconst (v := -1) hx hb dX2_best_16 rfl ?_
    refine lv_istore (lv' := [(5, .int (-1)), (4, .int (setB (fun k => allF f3 who (fun n => fit2 f3 (nI k) n) N3) 6)), (0, .ref (u 0)), (1, .int (2)), (2, .ref (a 0)), (3, .int (who))]) hx hb dX2_best_17 hl (by decide) rfl (fun ls hl => ?_)
    refine lv_bipush (v := 11) hx hb dX2_best_19 rfl ?_
    refine lv_istore (lv' := [(6, .int (11)), (5, .int (-1)), (4, .int (setB (fun k => allF f3 who (fun n => fit2 f3 (nI k) n) N3) 6)), (0, .ref (u 0)), (1, .int (2)), (2, .ref (a 0)), (3, .int (who))]) hx hb dX2_best_21 hl (by decide) rfl (fun ls hl => ?_)
    refine lv_iconst (v := 0) hx hb dX2_best_23 rfl ?_
    refine lv_istore (lv' := [(7, .int (0)), (6, .int (11)), (5, .int (-1)), (4, .int (setB (fun k => allF f3 who (fun n => fit2 f3 (nI k) n) N3) 6)), (0, .ref (u 0)), (1, .int (2)), (2, .ref (a 0)), (3, .int (who))]) hx hb dX2_best_24 hl (by decide) rfl (fun ls hl => ?_)
    have cut26 : ∀ kk : Nat, ∀ (n : Nat) (ux : Nat → Int32), 211 - n < kk → (hn : n ≤ 210) → ∀ (H : Heap) (locs : List Loc), kP g (uW g u ux ++ (gW g a (ay 0) (ap 0) (b1 0) (b2 0) (b3 0) ++ (yW g ay r ++ (pW g ap N f ++ (rW g b1 N1 l1 f1 ++ (rW g b2 N2 l2 f2 ++ (rW g b3 N3 l3 f3 ++ []))))))) H → va_D (dm (uW g u uf ++ (gW g a (ay 0) (ap 0) (b1 0) (b2 0) (b3 0) ++ (yW g ay r ++ (pW g ap N f ++ (rW g b1 N1 l1 f1 ++ (rW g b2 N2 l2 f2 ++ (rW g b3 N3 l3 f3 ++ [])))))))) (uW g u ux ++ (gW g a (ay 0) (ap 0) (b1 0) (b2 0) (b3 0) ++ (yW g ay r ++ (pW g ap N f ++ (rW g b1 N1 l1 f1 ++ (rW g b2 N2 l2 f2 ++ (rW g b3 N3 l3 f3 ++ []))))))) → va_S (dm (uW g u uf ++ (gW g a (ay 0) (ap 0) (b1 0) (b2 0) (b3 0) ++ (yW g ay r ++ (pW g ap N f ++ (rW g b1 N1 l1 f1 ++ (rW g b2 N2 l2 f2 ++ (rW g b3 N3 l3 f3 ++ [])))))))) ss.heap H locs → ∀ (ls : Array Slot), lv_has ls 9 [(0, .ref (u 0)), (1, .int (2)), (2, .ref (a 0)), (3, .int (who)), (4, .int (setB (fun k => allF f3 who (fun n => fit2 f3 (nI k) n) N3) 6)), (5, .int ((bsF (fun L => moF (fun k => frc (nI k) (yPF r who 1) (nI (L % 10)) (nI (L / 10))) (setB (fun k => allF f3 who (fun n => fit2 f3 (nI k) n) N3) 6) 10) (fun L => decide (L % 10 = 0)) n).1)), (6, .int ((bsF (fun L => moF (fun k => frc (nI k) (yPF r who 1) (nI (L % 10)) (nI (L / 10))) (setB (fun k => allF f3 who (fun n => fit2 f3 (nI k) n) N3) 6) 10) (fun L => decide (L % 10 = 0)) n).2)), (7, .int (nI n))] → W pp l ee (rmN 7) ss mm ([.ref (u 0), .int (2), .ref (a 0), .int (who)] : List Value).toArray bl mt cd H locs 0 0 (MQ bl (rxQi g (uW g u uf ++ (gW g a (ay 0) (ap 0) (b1 0) (b2 0) (b3 0) ++ (yW g ay r ++ (pW g ap N f ++ (rW g b1 N1 l1 f1 ++ (rW g b2 N2 l2 f2 ++ (rW g b3 N3 l3 f3 ++ []))))))) (fun u9 : (Nat → Int32) => uW g u u9 ++ (gW g a (ay 0) (ap 0) (b1 0) (b2 0) (b3 0) ++ (yW g ay r ++ (pW g ap N f ++ (rW g b1 N1 l1 f1 ++ (rW g b2 N2 l2 f2 ++ (rW g b3 N3 l3 f3 ++ []))))))) (if setB (fun k => allF f3 who (fun n => fit2 f3 (nI k) n) N3) 6 = 0 then -1 else (bsF (fun L => moF (fun k => frc (nI k) (yPF r who 1) (nI (L % 10)) (nI (L / 10))) (setB (fun k => allF f3 who (fun n => fit2 f3 (nI k) n) N3) 6) 10) (fun L => decide (L % 10 = 0)) 210).1)) ([.ref (u 0), .int (2), .ref (a 0), .int (who)] : List Value).toArray ss 0 0 (dm (uW g u uf ++ (gW g a (ay 0) (ap 0) (b1 0) (b2 0) (b3 0) ++ (yW g ay r ++ (pW g ap N f ++ (rW g b1 N1 l1 f1 ++ (rW g b2 N2 l2 f2 ++ (rW g b3 N3 l3 f3 ++ []))))))))) (F0 mm 26 ls []) := by
      intro kk
      induction kk with
      | zero => intro n ux hmu; exact absurd hmu (Nat.not_lt_zero _)
      | succ kk ih26 =>
        intro n ux hmu hn H locs hP hD hS ls hl
        refine lv_iload hx hb dX2_best_26 (lv_at hl 7 rfl) ?_
        refine lv_sipush (v := 210) hx hb dX2_best_28 rfl ?_
        refine lv_icmp_ge (tgt := 96) hx hb dX2_best_31 (by decide) (fun c2 => ?_) (fun c2 => ?_)
        · skip
          have c2' := Int32.not_lt.mpr c2
          have hn9 : n = 210 := by have := lp_ge (by omega) c2; rw [show (210 : Int32).toInt = 210 from rfl] at this; omega
          subst hn9
          have hfin : (bsF (fun L => moF (fun k => frc (nI k) (yPF r who 1) (nI (L % 10)) (nI (L / 10))) (setB (fun k => allF f3 who (fun n => fit2 f3 (nI k) n) N3) 6) 10) (fun L => decide (L % 10 = 0)) 210).1 = (bsF (fun L => moF (fun k => frc (nI k) (yPF r who 1) (nI (L % 10)) (nI (L / 10))) (setB (fun k => allF f3 who (fun n => fit2 f3 (nI k) n) N3) 6) 10) (fun L => decide (L % 10 = 0)) 210).1 := rfl
          refine lv_iload hx hb dX2_best_96 (lv_at hl 5 rfl) ?_
          exact ret_rxi (S := (Nat → Int32)) ux hx hb hr hlk (by rw [if_neg c1]; try exact hfin) (hP) hS dX2_best_98
        · skip
          have c2' := Int32.not_le.mp c2
          have hn9 : n < 210 := by have := lp_lt (by omega) c2; rw [show (210 : Int32).toInt = 210 from rfl] at this; omega
          refine lv_iload hx hb dX2_best_34 (lv_at hl 6 rfl) ?_
          refine lv_iconst (v := 1) hx hb dX2_best_36 rfl ?_
          refine lv_icmp_le (tgt := 96) hx hb dX2_best_37 (by decide) (fun c3 => ?_) (fun c3 => ?_)
          · skip
            have c3' := Int32.not_lt.mpr c3
            have hfin : (bsF (fun L => moF (fun k => frc (nI k) (yPF r who 1) (nI (L % 10)) (nI (L / 10))) (setB (fun k => allF f3 who (fun n => fit2 f3 (nI k) n) N3) 6) 10) (fun L => decide (L % 10 = 0)) n).1 = (bsF (fun L => moF (fun k => frc (nI k) (yPF r who 1) (nI (L % 10)) (nI (L / 10))) (setB (fun k => allF f3 who (fun n => fit2 f3 (nI k) n) N3) 6) 10) (fun L => decide (L % 10 = 0)) 210).1 := by rw [bsF_stop (N := 210) (by omega) (Int32.not_lt.mpr c3)]
            refine lv_iload hx hb dX2_best_96 (lv_at hl 5 rfl) ?_
            exact ret_rxi (S := (Nat → Int32)) ux hx hb hr hlk (by rw [if_neg c1]; try exact hfin) (hP) hS dX2_best_98
          · skip
            have c3' := Int32.not_le.mp c3
            have hfew : 1 < (bsF (fun L => moF (fun k => frc (nI k) (yPF r who 1) (nI (L % 10)) (nI (L / 10))) (setB (fun k => allF f3 who (fun n => fit2 f3 (nI k) n) N3) 6) 10) (fun L => decide (L % 10 = 0)) n).2 := Int32.not_le.mp c3
            refine lv_iload_n hx hb dX2_best_40 rfl (lv_at hl 1 rfl) ?_
            refine lv_iconst (v := 2) hx hb dX2_best_41 rfl ?_
            refine lv_icmp_ne (tgt := 56) hx hb dX2_best_42 (by decide) (fun c4 => ?_) (fun c4 => ?_)
            · skip
              exact absurd c4 (by decide)
            · skip
              refine lv_iload hx hb dX2_best_45 (lv_at hl 7 rfl) ?_
              refine lv_bipush (v := 10) hx hb dX2_best_47 rfl ?_
              refine lv_irem hx hb dX2_best_49 (by decide) ?_
              refine top_i (x := (nI n) - (nI n) / 10 * 10) (y := nI (n % 10)) (pk_rem (d := 10) (by omega) (by omega) (by omega)) ?_
              refine lv_if_ne (tgt := 56) hx hb dX2_best_50 (by decide) (fun c5 => ?_) (fun c5 => ?_)
              · skip
                have hsk : ¬ n % 10 = 0 := by rw [show (0 : Int32) = nI 0 from rfl, nI_eq (by omega) (by omega)] at c5; exact c5
                refine lv_aload_n hx hb dX2_best_56 rfl (lv_at hl 0 rfl) ?_
                refine lv_iload_n hx hb dX2_best_57 rfl (lv_at hl 1 rfl) ?_
                refine lv_aload_n hx hb dX2_best_58 rfl (lv_at hl 2 rfl) ?_
                refine kget hC.1 hK (kP_app.mp (kP_app.mp hP).2).1 0 rfl rfl in_1 0 (by decide) (gw_in m_181 rfl) rfl dX2_best_59 ?_
                refine lv_iload_n hx hb dX2_best_62 rfl (lv_at hl 3 rfl) ?_
                refine lv_iload hx hb dX2_best_63 (lv_at hl 4 rfl) ?_
                refine lv_iload hx hb dX2_best_65 (lv_at hl 7 rfl) ?_
                have hP : kP g (uW g u ux ++ (yW g ay r ++ (gW g a (ay 0) (ap 0) (b1 0) (b2 0) (b3 0) ++ (pW g ap N f ++ (rW g b1 N1 l1 f1 ++ (rW g b2 N2 l2 f2 ++ (rW g b3 N3 l3 f3 ++ []))))))) _ := kP_perm (pmA _ (pm_swap _ _ _)) hP
                have hD : va_D _ (uW g u ux ++ (yW g ay r ++ (gW g a (ay 0) (ap 0) (b1 0) (b2 0) (b3 0) ++ (pW g ap N f ++ (rW g b1 N1 l1 f1 ++ (rW g b2 N2 l2 f2 ++ (rW g b3 N3 l3 f3 ++ []))))))) := vD_perm (pmA _ (pm_swap _ _ _)) hD
                refine rx_i (run_V (As := [.int (2), .ref (ay 0), .int (who), .int (setB (fun k => allF f3 who (fun n => fit2 f3 (nI k) n) N3) 6), .int (nI n)]) (rest := []) hC.1 ckX2_mostAlike (kX2_mostAlike_2 l g u ux ay r who (setB (fun k => allF f3 who (fun n => fit2 f3 (nI k) n) N3) 6) n hw hn9) (gw_in m_785 rfl) (fb_rw _ _ _) (va_recv hK.1 (kP_app.mp hP).1 (q0 := 0) rfl rfl) (fun U hU hW => ⟨by rw [hU]; exact (kP_app.mpr ⟨(kP_app.mp hP).1, (kP_app.mpr ⟨(kP_app.mp (kP_app.mp hP).2).1, kP_nil⟩)⟩), kK_warm hW hK, vD_sub (sbA _ (sbA _ (sb0 _))) hD⟩) ⟨rfl, rfl, Nat.le_of_ble_eq_true rfl, Nat.le_of_ble_eq_true rfl⟩ rfl hl.1 rfl (Nat.le_of_ble_eq_true rfl) dX2_best_67 ⟨Nat.le_of_ble_eq_true rfl, Nat.le_of_ble_eq_true rfl⟩) (fun u => (adr_app rfl (adr_app rfl rfl))) (asc2 _ _ _) (ww' := fun u9 : (Nat → Int32) => uW g u u9 ++ (yW g ay r ++ (gW g a (ay 0) (ap 0) (b1 0) (b2 0) (b3 0) ++ (pW g ap N f ++ (rW g b1 N1 l1 f1 ++ (rW g b2 N2 l2 f2 ++ (rW g b3 N3 l3 f3 ++ []))))))) (fun u => asc2 _ _ _) hP hD hS (fun u H locs hP hD hS => ?_)
                obtain ⟨x6, rfl⟩ : ∃ z, z = u := ⟨_, rfl⟩
                have hP : kP g (uW g u x6 ++ (yW g ay r ++ (gW g a (ay 0) (ap 0) (b1 0) (b2 0) (b3 0) ++ (pW g ap N f ++ (rW g b1 N1 l1 f1 ++ (rW g b2 N2 l2 f2 ++ (rW g b3 N3 l3 f3 ++ []))))))) H := hP
                have hD : va_D _ (uW g u x6 ++ (yW g ay r ++ (gW g a (ay 0) (ap 0) (b1 0) (b2 0) (b3 0) ++ (pW g ap N f ++ (rW g b1 N1 l1 f1 ++ (rW g b2 N2 l2 f2 ++ (rW g b3 N3 l3 f3 ++ []))))))) := hD
                refine top_i (x := moF (fun k => frc (nI k) (yPF r who 1) (nI (n % 10)) (nI (n / 10))) (setB (fun k => allF f3 who (fun n => fit2 f3 (nI k) n) N3) 6) 10) (y := (fun L => moF (fun k => frc (nI k) (yPF r who 1) (nI (L % 10)) (nI (L / 10))) (setB (fun k => allF f3 who (fun n => fit2 f3 (nI k) n) N3) 6) 10) n) rfl ?_
                refine lv_istore (lv' := [(8, .int ((fun L => moF (fun k => frc (nI k) (yPF r who 1) (nI (L % 10)) (nI (L / 10))) (setB (fun k => allF f3 who (fun n => fit2 f3 (nI k) n) N3) 6) 10) n)), (0, .ref (u 0)), (1, .int (2)), (2, .ref (a 0)), (3, .int (who)), (4, .int (setB (fun k => allF f3 who (fun n => fit2 f3 (nI k) n) N3) 6)), (5, .int ((bsF (fun L => moF (fun k => frc (nI k) (yPF r who 1) (nI (L % 10)) (nI (L / 10))) (setB (fun k => allF f3 who (fun n => fit2 f3 (nI k) n) N3) 6) 10) (fun L => decide (L % 10 = 0)) n).1)), (6, .int ((bsF (fun L => moF (fun k => frc (nI k) (yPF r who 1) (nI (L % 10)) (nI (L / 10))) (setB (fun k => allF f3 who (fun n => fit2 f3 (nI k) n) N3) 6) 10) (fun L => decide (L % 10 = 0)) n).2)), (7, .int (nI n))]) hx hb dX2_best_70 hl (by decide) rfl (fun ls hl => ?_)
                refine lv_iload hx hb dX2_best_72 (lv_at hl 0 rfl) ?_
                refine lv_iload hx hb dX2_best_74 (lv_at hl 7 rfl) ?_
                refine lv_icmp_lt (tgt := 82) hx hb dX2_best_76 (by decide) (fun c7 => ?_) (fun c7 => ?_)
                · skip
                  have c7' := Int32.not_le.mpr c7
                  refine lv_iload hx hb dX2_best_82 (lv_at hl 0 rfl) ?_
                  refine lv_istore (lv' := [(6, .int ((fun L => moF (fun k => frc (nI k) (yPF r who 1) (nI (L % 10)) (nI (L / 10))) (setB (fun k => allF f3 who (fun n => fit2 f3 (nI k) n) N3) 6) 10) n)), (8, .int ((fun L => moF (fun k => frc (nI k) (yPF r who 1) (nI (L % 10)) (nI (L / 10))) (setB (fun k => allF f3 who (fun n => fit2 f3 (nI k) n) N3) 6) 10) n)), (0, .ref (u 0)), (1, .int (2)), (2, .ref (a 0)), (3, .int (who)), (4, .int (setB (fun k => allF f3 who (fun n => fit2 f3 (nI k) n) N3) 6)), (5, .int ((bsF (fun L => moF (fun k => frc (nI k) (yPF r who 1) (nI (L % 10)) (nI (L / 10))) (setB (fun k => allF f3 who (fun n => fit2 f3 (nI k) n) N3) 6) 10) (fun L => decide (L % 10 = 0)) n).1)), (7, .int (nI n))]) hx hb dX2_best_84 hl (by decide) rfl (fun ls hl => ?_)
                  refine lv_iload hx hb dX2_best_86 (lv_at hl 8 rfl) ?_
                  refine lv_istore (lv' := [(5, .int (nI n)), (6, .int ((fun L => moF (fun k => frc (nI k) (yPF r who 1) (nI (L % 10)) (nI (L / 10))) (setB (fun k => allF f3 who (fun n => fit2 f3 (nI k) n) N3) 6) 10) n)), (8, .int ((fun L => moF (fun k => frc (nI k) (yPF r who 1) (nI (L % 10)) (nI (L / 10))) (setB (fun k => allF f3 who (fun n => fit2 f3 (nI k) n) N3) 6) 10) n)), (0, .ref (u 0)), (1, .int (2)), (2, .ref (a 0)), (3, .int (who)), (4, .int (setB (fun k => allF f3 who (fun n => fit2 f3 (nI k) n) N3) 6)), (7, .int (nI n))]) hx hb dX2_best_88 hl (by decide) rfl (fun ls hl => ?_)
                  refine lv_iinc (v := nI (n + 1)) (lv' := [(7, .int (nI (n + 1))), (5, .int (nI n)), (6, .int ((fun L => moF (fun k => frc (nI k) (yPF r who 1) (nI (L % 10)) (nI (L / 10))) (setB (fun k => allF f3 who (fun n => fit2 f3 (nI k) n) N3) 6) 10) n)), (8, .int ((fun L => moF (fun k => frc (nI k) (yPF r who 1) (nI (L % 10)) (nI (L / 10))) (setB (fun k => allF f3 who (fun n => fit2 f3 (nI k) n) N3) 6) 10) n)), (0, .ref (u 0)), (1, .int (2)), (2, .ref (a 0)), (3, .int (who)), (4, .int (setB (fun k => allF f3 who (fun n => fit2 f3 (nI k) n) N3) 6))]) hx hb dX2_best_90 hl (k := 8) rfl (inc_nI n) (by decide) rfl (fun ls hl => ?_)
                  refine lv_goto (tgt := 26) hx hb dX2_best_93 (by decide) ?_
                  have e9 : bsF (fun L => moF (fun k => frc (nI k) (yPF r who 1) (nI (L % 10)) (nI (L / 10))) (setB (fun k => allF f3 who (fun n => fit2 f3 (nI k) n) N3) 6) 10) (fun L => decide (L % 10 = 0)) (n + 1) = (nI n, (fun L => moF (fun k => frc (nI k) (yPF r who 1) (nI (L % 10)) (nI (L / 10))) (setB (fun k => allF f3 who (fun n => fit2 f3 (nI k) n) N3) 6) 10) n) := bsF_yes hfew (by simpa using hsk) c7
                  have hl : lv_has ls 9 [(7, .int (nI (n + 1))), (5, .int ((bsF (fun L => moF (fun k => frc (nI k) (yPF r who 1) (nI (L % 10)) (nI (L / 10))) (setB (fun k => allF f3 who (fun n => fit2 f3 (nI k) n) N3) 6) 10) (fun L => decide (L % 10 = 0)) (n + 1)).1)), (6, .int ((bsF (fun L => moF (fun k => frc (nI k) (yPF r who 1) (nI (L % 10)) (nI (L / 10))) (setB (fun k => allF f3 who (fun n => fit2 f3 (nI k) n) N3) 6) 10) (fun L => decide (L % 10 = 0)) (n + 1)).2)), (8, .int ((fun L => moF (fun k => frc (nI k) (yPF r who 1) (nI (L % 10)) (nI (L / 10))) (setB (fun k => allF f3 who (fun n => fit2 f3 (nI k) n) N3) 6) 10) n)), (0, .ref (u 0)), (1, .int (2)), (2, .ref (a 0)), (3, .int (who)), (4, .int (setB (fun k => allF f3 who (fun n => fit2 f3 (nI k) n) N3) 6))] := by rw [e9]; exact hl
                  have hP : kP g (uW g u x6 ++ (gW g a (ay 0) (ap 0) (b1 0) (b2 0) (b3 0) ++ (yW g ay r ++ (pW g ap N f ++ (rW g b1 N1 l1 f1 ++ (rW g b2 N2 l2 f2 ++ (rW g b3 N3 l3 f3 ++ []))))))) _ := kP_perm (pmA _ (pm_swap _ _ _)) hP
                  have hD : va_D _ (uW g u x6 ++ (gW g a (ay 0) (ap 0) (b1 0) (b2 0) (b3 0) ++ (yW g ay r ++ (pW g ap N f ++ (rW g b1 N1 l1 f1 ++ (rW g b2 N2 l2 f2 ++ (rW g b3 N3 l3 f3 ++ []))))))) := vD_perm (pmA _ (pm_swap _ _ _)) hD
                  exact ih26 (n + 1) x6 (by omega) (by omega) _ _ hP hD hS _ (lv_sub hl [4, 5, 6, 7, 8, 1, 2, 0] rfl)
                · skip
                  have c7' := Int32.not_lt.mp c7
                  refine lv_goto (tgt := 90) hx hb dX2_best_79 (by decide) ?_
                  refine lv_iinc (v := nI (n + 1)) (lv' := [(7, .int (nI (n + 1))), (8, .int ((fun L => moF (fun k => frc (nI k) (yPF r who 1) (nI (L % 10)) (nI (L / 10))) (setB (fun k => allF f3 who (fun n => fit2 f3 (nI k) n) N3) 6) 10) n)), (0, .ref (u 0)), (1, .int (2)), (2, .ref (a 0)), (3, .int (who)), (4, .int (setB (fun k => allF f3 who (fun n => fit2 f3 (nI k) n) N3) 6)), (5, .int ((bsF (fun L => moF (fun k => frc (nI k) (yPF r who 1) (nI (L % 10)) (nI (L / 10))) (setB (fun k => allF f3 who (fun n => fit2 f3 (nI k) n) N3) 6) 10) (fun L => decide (L % 10 = 0)) n).1)), (6, .int ((bsF (fun L => moF (fun k => frc (nI k) (yPF r who 1) (nI (L % 10)) (nI (L / 10))) (setB (fun k => allF f3 who (fun n => fit2 f3 (nI k) n) N3) 6) 10) (fun L => decide (L % 10 = 0)) n).2))]) hx hb dX2_best_90 hl (k := 8) rfl (inc_nI n) (by decide) rfl (fun ls hl => ?_)
                  refine lv_goto (tgt := 26) hx hb dX2_best_93 (by decide) ?_
                  have e9 : bsF (fun L => moF (fun k => frc (nI k) (yPF r who 1) (nI (L % 10)) (nI (L / 10))) (setB (fun k => allF f3 who (fun n => fit2 f3 (nI k) n) N3) 6) 10) (fun L => decide (L % 10 = 0)) (n + 1) = bsF (fun L => moF (fun k => frc (nI k) (yPF r who 1) (nI (L % 10)) (nI (L / 10))) (setB (fun k => allF f3 who (fun n => fit2 f3 (nI k) n) N3) 6) 10) (fun L => decide (L % 10 = 0)) n := bsF_no c7
                  have hl : lv_has ls 9 [(7, .int (nI (n + 1))), (8, .int ((fun L => moF (fun k => frc (nI k) (yPF r who 1) (nI (L % 10)) (nI (L / 10))) (setB (fun k => allF f3 who (fun n => fit2 f3 (nI k) n) N3) 6) 10) n)), (0, .ref (u 0)), (1, .int (2)), (2, .ref (a 0)), (3, .int (who)), (4, .int (setB (fun k => allF f3 who (fun n => fit2 f3 (nI k) n) N3) 6)), (5, .int ((bsF (fun L => moF (fun k => frc (nI k) (yPF r who 1) (nI (L % 10)) (nI (L / 10))) (setB (fun k => allF f3 who (fun n => fit2 f3 (nI k) n) N3) 6) 10) (fun L => decide (L % 10 = 0)) (n + 1)).1)), (6, .int ((bsF (fun L => moF (fun k => frc (nI k) (yPF r who 1) (nI (L % 10)) (nI (L / 10))) (setB (fun k => allF f3 who (fun n => fit2 f3 (nI k) n) N3) 6) 10) (fun L => decide (L % 10 = 0)) (n + 1)).2))] := by rw [e9]; exact hl
                  have hP : kP g (uW g u x6 ++ (gW g a (ay 0) (ap 0) (b1 0) (b2 0) (b3 0) ++ (yW g ay r ++ (pW g ap N f ++ (rW g b1 N1 l1 f1 ++ (rW g b2 N2 l2 f2 ++ (rW g b3 N3 l3 f3 ++ []))))))) _ := kP_perm (pmA _ (pm_swap _ _ _)) hP
                  have hD : va_D _ (uW g u x6 ++ (gW g a (ay 0) (ap 0) (b1 0) (b2 0) (b3 0) ++ (yW g ay r ++ (pW g ap N f ++ (rW g b1 N1 l1 f1 ++ (rW g b2 N2 l2 f2 ++ (rW g b3 N3 l3 f3 ++ []))))))) := vD_perm (pmA _ (pm_swap _ _ _)) hD
                  exact ih26 (n + 1) x6 (by omega) (by omega) _ _ hP hD hS _ (lv_sub hl [2, 3, 4, 5, 6, 7, 8, 0] rfl)
              · skip
                have hsk : n % 10 = 0 := by rw [show (0 : Int32) = nI 0 from rfl, nI_eq (by omega) (by omega)] at c5; exact c5
                refine lv_goto (tgt := 90) hx hb dX2_best_53 (by decide) ?_
                refine lv_iinc (v := nI (n + 1)) (lv' := [(7, .int (nI (n + 1))), (0, .ref (u 0)), (1, .int (2)), (2, .ref (a 0)), (3, .int (who)), (4, .int (setB (fun k => allF f3 who (fun n => fit2 f3 (nI k) n) N3) 6)), (5, .int ((bsF (fun L => moF (fun k => frc (nI k) (yPF r who 1) (nI (L % 10)) (nI (L / 10))) (setB (fun k => allF f3 who (fun n => fit2 f3 (nI k) n) N3) 6) 10) (fun L => decide (L % 10 = 0)) n).1)), (6, .int ((bsF (fun L => moF (fun k => frc (nI k) (yPF r who 1) (nI (L % 10)) (nI (L / 10))) (setB (fun k => allF f3 who (fun n => fit2 f3 (nI k) n) N3) 6) 10) (fun L => decide (L % 10 = 0)) n).2))]) hx hb dX2_best_90 hl (k := 7) rfl (inc_nI n) (by decide) rfl (fun ls hl => ?_)
                refine lv_goto (tgt := 26) hx hb dX2_best_93 (by decide) ?_
                have e9 : bsF (fun L => moF (fun k => frc (nI k) (yPF r who 1) (nI (L % 10)) (nI (L / 10))) (setB (fun k => allF f3 who (fun n => fit2 f3 (nI k) n) N3) 6) 10) (fun L => decide (L % 10 = 0)) (n + 1) = bsF (fun L => moF (fun k => frc (nI k) (yPF r who 1) (nI (L % 10)) (nI (L / 10))) (setB (fun k => allF f3 who (fun n => fit2 f3 (nI k) n) N3) 6) 10) (fun L => decide (L % 10 = 0)) n := bsF_skip (by simpa using hsk)
                have hl : lv_has ls 9 [(7, .int (nI (n + 1))), (0, .ref (u 0)), (1, .int (2)), (2, .ref (a 0)), (3, .int (who)), (4, .int (setB (fun k => allF f3 who (fun n => fit2 f3 (nI k) n) N3) 6)), (5, .int ((bsF (fun L => moF (fun k => frc (nI k) (yPF r who 1) (nI (L % 10)) (nI (L / 10))) (setB (fun k => allF f3 who (fun n => fit2 f3 (nI k) n) N3) 6) 10) (fun L => decide (L % 10 = 0)) (n + 1)).1)), (6, .int ((bsF (fun L => moF (fun k => frc (nI k) (yPF r who 1) (nI (L % 10)) (nI (L / 10))) (setB (fun k => allF f3 who (fun n => fit2 f3 (nI k) n) N3) 6) 10) (fun L => decide (L % 10 = 0)) (n + 1)).2))] := by rw [e9]; exact hl
                exact ih26 (n + 1) ux (by omega) (by omega) _ _ hP hD hS _ (lv_sub hl [1, 2, 3, 4, 5, 6, 7, 0] rfl)
    exact cut26 _ 0 uf (Nat.lt_succ_self _) (by omega) _ _ hP hD hS _ (lv_sub hl [4, 5, 6, 7, 3, 2, 1, 0] rfl)
  · skip
    refine lv_iconst (v := -1) hx hb dX2_best_14 rfl ?_
    exact ret_rxi (S := (Nat → Int32)) uf hx hb hr hlk (by rw [if_pos c1]) (hP) hS dX2_best_15
