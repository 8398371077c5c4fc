theorem ckX9_rank : ckV yX9_rank cX9_rank 9 (some .int) 1 := ⟨(gw_in m_1253 rfl), (gw_in m_71 rfl), ⟨(gw_in m_1251 rfl), (gw_in m_1252 rfl)⟩, by decide +kernel, by decide +kernel, by decide +kernel⟩
theorem ckX9_isOrder : ckS yX9_isOrder cX9_isOrder 6 (some .boolean) 3 := ⟨(gw_in m_1263 rfl), (gw_in m_71 rfl), (gw_in m_1262 rfl), by decide +kernel, by decide +kernel, by decide +kernel⟩
theorem ckX9_placeIn : ckS yX9_placeIn cX9_placeIn 5 (some .int) 3 := ⟨(gw_in m_1266 rfl), (gw_in m_71 rfl), (gw_in m_1265 rfl), by decide +kernel, by decide +kernel, by decide +kernel⟩
theorem kr_nI {r : Nat → Int32} {k : Int32} (hw : Wf r) (h0 : 0 ≤ k) (h1 : k < r 2) : ∃ K : Nat, K < 6 ∧ k = nI K := by
  rw [Int32.le_iff_toInt_le, Int32.toInt_zero] at h0
  rw [Int32.lt_iff_toInt_lt] at h1
  obtain ⟨K, h2, h3, h4⟩ := nI_ofT h0
  have := hw.n6
  exact ⟨K, by omega, h3⟩
/-- by what a nut ranks; the best of those that are not used; one chosen behind another -/
def byM (r : Nat → Int32) (n : Nat) : Int32 := r (39 + n) + (if mBrk r (nI n) = true then 0 else 1000)
def rkI (r : Nat → Int32) (u w : Int32) : Nat → Int32 × Int32
  | 0 => (w, -1)
  | n + 1 => if hasB u (nI n) = true then rkI r u w n else if byM r n ≤ (rkI r u w n).2 then rkI r u w n else (nI n, byM r n)
def rkO (r : Nat → Int32) : Nat → Int32 × Int32
  | 0 => (-1, 0)
  | q + 1 => ((rkI r (rkO r q).2 (rkO r q).1 (cl (r 2))).1, (rkO r q).2 ||| ((1 : Int32) <<< ((rkI r (rkO r q).2 (rkO r q).1 (cl (r 2))).1 &&& 31)))
/-- figures to the base of six -/
def ioU (C : Nat) : Nat → Int32
  | 0 => 0
  | n + 1 => ioU C n ||| ((1 : Int32) <<< (nI (C / 6 ^ n % 6) &&& 31))
def plI (C M K : Nat) : Nat := C / 6 ^ (M - 1 - K) % 6
set_option maxHeartbeats 4000000 in
set_option maxRecDepth 100000 in
theorem kX9_rank (l : Launch) (g : gG) (o : Nat → Nat) (ab be : Int64) (lm ra ta : Nat) (ti fa : Int32) (um ua : Nat) (hh : Int64) (rf : Nat → Int32) (r : Nat → Int32) (k : Int32) (hw : Wf r) : Met l yX9_rank (.code yX9_rank cX9_rank 9 (some .int) :: gw) (rmN 1) (va_Pc [.ref (o 0), .int (k)] (rwPre g (mO g o ab be lm ra ta ti fa um ua hh ++ (aW g (o 1) 3 rf ++ (aW g (o 2) 45 r ++ []))))) (rwQi g (mO g o ab be lm ra ta ti fa um ua hh ++ (aW g (o 1) 3 rf ++ (aW g (o 2) 45 r ++ []))) (mO g o ab be lm ra ta ti fa um ua hh ++ (aW g (o 1) 3 (if k < 0 then upd rf 0 (rf 0 + 1) else if r 2 ≤ k then upd rf 1 (rf 1 + 1) else rf) ++ (aW g (o 2) 45 r ++ []))) (if k < 0 then -2 else if r 2 ≤ k then -3 else (rkO r (cl k + 1)).1)) 0 0 (dm (mO g o ab be lm ra ta ti fa um ua hh ++ (aW g (o 1) 3 rf ++ (aW g (o 2) 45 r ++ [])))) := by
  refine met_start (by decide) (Nat.le_of_ble_eq_true rfl) ?_
  intro pp ee ss mm bl mt cd hC hpre ls hl
  obtain ⟨⟨hx, hb, hml, hown, hts⟩, hr, hlk, hnm⟩ := id hC
  have hl : lv_has ls 9 [(0, .ref (o 0)), (1, .int (k))] := hl
  obtain ⟨hP, hK, hD⟩ := hpre
  have hS : va_S (dm (mO g o ab be lm ra ta ti fa um ua hh ++ (aW g (o 1) 3 rf ++ (aW g (o 2) 45 r ++ [])))) ss.heap ss.heap [] := va_S.rf
  have hD := vD_self hD
  refine lv_iload_n hx hb dX9_rank_0 rfl (lv_at hl 1 rfl) ?_
  refine lv_if_ge (tgt := 11) hx hb dX9_rank_1 (by decide) (fun c1 => ?_) (fun c1 => ?_)
  · skip
    have c1' := Int32.not_lt.mpr c1
    refine lv_iload_n hx hb dX9_rank_11 rfl (lv_at hl 1 rfl) ?_
    refine lv_aload_n hx hb dX9_rank_12 rfl (lv_at hl 0 rfl) ?_
    refine kget hC.1 hK (kP_app.mp hP).1 0 rfl rfl in_9 3 (by decide) (gw_in m_963 rfl) rfl dX9_rank_13 ?_
    refine lv_iconst (v := 2) hx hb dX9_rank_16 rfl ?_
    refine kald (v := r 2) hC.1 hK (kP_app.mp (kP_app.mp (kP_app.mp hP).2).2).1 0 rfl (show vp_in (nI 2) 45 from vp_in_nI (by omega) (by omega)) (congrArg r (show cl 2 = 2 from by decide)) dX9_rank_17 ?_
    refine lv_icmp_lt (tgt := 26) hx hb dX9_rank_18 (by decide) (fun c2 => ?_) (fun c2 => ?_)
    · skip
      have c2' := Int32.not_le.mpr c2
      obtain ⟨K, hK6, hke⟩ := kr_nI hw c1 c2
      have hl : lv_has ls 9 [(0, .ref (o 0)), (1, .int (nI K))] := by rw [← hke]; exact hl
      have hKc : cl k = K := by rw [hke]; exact cl_nI (by omega)
      refine lv_iconst (v := -1) hx hb dX9_rank_26 rfl ?_
      refine lv_istore_n (lv' := [(2, .int (-1)), (0, .ref (o 0)), (1, .int (nI K))]) hx hb dX9_rank_27 rfl hl (by decide) rfl (fun ls hl => ?_)
      refine lv_iconst (v := 0) hx hb dX9_rank_28 rfl ?_
      refine lv_istore_n (lv' := [(3, .int (0)), (2, .int (-1)), (0, .ref (o 0)), (1, .int (nI K))]) hx hb dX9_rank_29 rfl hl (by decide) rfl (fun ls hl => ?_)
      refine lv_iconst (v := 0) hx hb dX9_rank_30 rfl ?_
      refine lv_istore (lv' := [(4, .int (0)), (3, .int (0)), (2, .int (-1)), (0, .ref (o 0)), (1, .int (nI K))]) hx hb dX9_rank_31 hl (by decide) rfl (fun ls hl => ?_)
      have cut33 : ∀ kk : Nat, ∀ (q : Nat), K + 2 - q < kk → (hq : q ≤ K + 1) → ∀ (H : Heap) (locs : List Loc), kP g (mO g o ab be lm ra ta ti fa um ua hh ++ (aW g (o 1) 3 rf ++ (aW g (o 2) 45 r ++ []))) H → va_D (dm (mO g o ab be lm ra ta ti fa um ua hh ++ (aW g (o 1) 3 rf ++ (aW g (o 2) 45 r ++ [])))) (mO g o ab be lm ra ta ti fa um ua hh ++ (aW g (o 1) 3 rf ++ (aW g (o 2) 45 r ++ []))) → va_S (dm (mO g o ab be lm ra ta ti fa um ua hh ++ (aW g (o 1) 3 rf ++ (aW g (o 2) 45 r ++ [])))) ss.heap H locs → ∀ (ls : Array Slot), lv_has ls 9 [(0, .ref (o 0)), (1, .int (nI K)), (2, .int ((rkO r q).1)), (3, .int ((rkO r q).2)), (4, .int (nI q))] → W pp l ee (rmN 1) ss mm ([.ref (o 0), .int (k)] : List Value).toArray bl mt cd H locs 0 0 (MQ bl (rwQi g (mO g o ab be lm ra ta ti fa um ua hh ++ (aW g (o 1) 3 rf ++ (aW g (o 2) 45 r ++ []))) (mO g o ab be lm ra ta ti fa um ua hh ++ (aW g (o 1) 3 (if k < 0 then upd rf 0 (rf 0 + 1) else if r 2 ≤ k then upd rf 1 (rf 1 + 1) else rf) ++ (aW g (o 2) 45 r ++ []))) (if k < 0 then -2 else if r 2 ≤ k then -3 else (rkO r (cl k + 1)).1)) ([.ref (o 0), .int (k)] : List Value).toArray ss 0 0 (dm (mO g o ab be lm ra ta ti fa um ua hh ++ (aW g (o 1) 3 rf ++ (aW g (o 2) 45 r ++ []))))) (F0 mm 33 ls []) := by
        intro kk
        induction kk with
        | zero => intro q hmu; exact absurd hmu (Nat.not_lt_zero _)
        | succ kk ih33 =>
          intro q hmu hq H locs hP hD hS ls hl
          refine lv_iload hx hb dX9_rank_33 (lv_at hl 4 rfl) ?_
          refine lv_iload_n hx hb dX9_rank_35 rfl (lv_at hl 1 rfl) ?_
          refine lv_icmp_gt (tgt := 155) hx hb dX9_rank_36 (by decide) (fun c3 => ?_) (fun c3 => ?_)
          · skip
            have c3' := Int32.not_le.mpr c3
            have hq9 : q = K + 1 := by rw [nI_ltI (by omega) (by omega)] at c3; omega
            subst hq9
            refine lv_iload_n hx hb dX9_rank_155 rfl (lv_at hl 2 rfl) ?_
            exact ret_rwi hx hb hr hlk (by rw [if_neg c1', if_neg c2', hKc]) (kP_eq (by rw [if_neg c1', if_neg c2']) hP) hS dX9_rank_156
          · skip
            have c3' := Int32.not_lt.mp c3
            have hq9 : q ≤ K := by rw [nI_ltI (by omega) (by omega)] at c3; omega
            refine lv_iconst (v := -1) hx hb dX9_rank_39 rfl ?_
            refine lv_istore (lv' := [(5, .int (-1)), (0, .ref (o 0)), (1, .int (nI K)), (2, .int ((rkO r q).1)), (3, .int ((rkO r q).2)), (4, .int (nI q))]) hx hb dX9_rank_40 hl (by decide) rfl (fun ls hl => ?_)
            refine lv_iconst (v := 0) hx hb dX9_rank_42 rfl ?_
            refine lv_istore (lv' := [(6, .int (0)), (5, .int (-1)), (0, .ref (o 0)), (1, .int (nI K)), (2, .int ((rkO r q).1)), (3, .int ((rkO r q).2)), (4, .int (nI q))]) hx hb dX9_rank_43 hl (by decide) rfl (fun ls hl => ?_)
            have cut45 : ∀ kk : Nat, ∀ (n : Nat), 7 - n < kk → (hn : (n : Int) ≤ (r 2).toInt) → ∀ (H : Heap) (locs : List Loc), kP g (mO g o ab be lm ra ta ti fa um ua hh ++ (aW g (o 1) 3 rf ++ (aW g (o 2) 45 r ++ []))) H → va_D (dm (mO g o ab be lm ra ta ti fa um ua hh ++ (aW g (o 1) 3 rf ++ (aW g (o 2) 45 r ++ [])))) (mO g o ab be lm ra ta ti fa um ua hh ++ (aW g (o 1) 3 rf ++ (aW g (o 2) 45 r ++ []))) → va_S (dm (mO g o ab be lm ra ta ti fa um ua hh ++ (aW g (o 1) 3 rf ++ (aW g (o 2) 45 r ++ [])))) ss.heap H locs → ∀ (ls : Array Slot), lv_has ls 9 [(0, .ref (o 0)), (1, .int (nI K)), (2, .int ((rkI r (rkO r q).2 (rkO r q).1 n).1)), (3, .int ((rkO r q).2)), (4, .int (nI q)), (5, .int ((rkI r (rkO r q).2 (rkO r q).1 n).2)), (6, .int (nI n))] → W pp l ee (rmN 1) ss mm ([.ref (o 0), .int (k)] : List Value).toArray bl mt cd H locs 0 0 (MQ bl (rwQi g (mO g o ab be lm ra ta ti fa um ua hh ++ (aW g (o 1) 3 rf ++ (aW g (o 2) 45 r ++ []))) (mO g o ab be lm ra ta ti fa um ua hh ++ (aW g (o 1) 3 (if k < 0 then upd rf 0 (rf 0 + 1) else if r 2 ≤ k then upd rf 1 (rf 1 + 1) else rf) ++ (aW g (o 2) 45 r ++ []))) (if k < 0 then -2 else if r 2 ≤ k then -3 else (rkO r (cl k + 1)).1)) ([.ref (o 0), .int (k)] : List Value).toArray ss 0 0 (dm (mO g o ab be lm ra ta ti fa um ua hh ++ (aW g (o 1) 3 rf ++ (aW g (o 2) 45 r ++ []))))) (F0 mm 45 ls []) := by
              intro kk
              induction kk with
              | zero => intro n hmu; exact absurd hmu (Nat.not_lt_zero _)
              | succ kk ih45 =>
                intro n hmu hn H locs hP hD hS ls hl
                refine lv_iload hx hb dX9_rank_45 (lv_at hl 6 rfl) ?_
                refine lv_aload_n hx hb dX9_rank_47 rfl (lv_at hl 0 rfl) ?_
                refine kget hC.1 hK (kP_app.mp hP).1 0 rfl rfl in_9 3 (by decide) (gw_in m_963 rfl) rfl dX9_rank_48 ?_
                refine lv_iconst (v := 2) hx hb dX9_rank_51 rfl ?_
                refine kald (v := r 2) hC.1 hK (kP_app.mp (kP_app.mp (kP_app.mp hP).2).2).1 0 rfl (show vp_in (nI 2) 45 from vp_in_nI (by omega) (by omega)) (congrArg r (show cl 2 = 2 from by decide)) dX9_rank_52 ?_
                refine lv_icmp_ge (tgt := 143) hx hb dX9_rank_53 (by decide) (fun c4 => ?_) (fun c4 => ?_)
                · skip
                  have c4' := Int32.not_lt.mpr c4
                  have hge := lp_ge (by have := hw.n6; omega) c4
                  have hend : cl (r 2) = n := by have := cl_ti (i := r 2) hw.2.2.1.1; omega
                  have hl : lv_has ls 9 [(0, .ref (o 0)), (1, .int (nI K)), (2, .int ((rkI r (rkO r q).2 (rkO r q).1 (cl (r 2))).1)), (3, .int ((rkO r q).2)), (4, .int (nI q)), (5, .int ((rkI r (rkO r q).2 (rkO r q).1 n).2)), (6, .int (nI n))] := by rw [hend]; exact hl
                  refine lv_iload_n hx hb dX9_rank_143 rfl (lv_at hl 3 rfl) ?_
                  refine lv_iconst (v := 1) hx hb dX9_rank_144 rfl ?_
                  refine lv_iload_n hx hb dX9_rank_145 rfl (lv_at hl 2 rfl) ?_
                  refine lv_ishl hx hb dX9_rank_146 ?_
                  refine lv_ior hx hb dX9_rank_147 ?_
                  refine top_i (x := (rkO r q).2 ||| (1 <<< ((rkI r (rkO r q).2 (rkO r q).1 (cl (r 2))).1 &&& 31))) (y := (rkO r (q + 1)).2) rfl ?_
                  refine lv_istore_n (lv' := [(3, .int ((rkO r (q + 1)).2)), (0, .ref (o 0)), (1, .int (nI K)), (2, .int ((rkI r (rkO r q).2 (rkO r q).1 (cl (r 2))).1)), (4, .int (nI q)), (5, .int ((rkI r (rkO r q).2 (rkO r q).1 n).2)), (6, .int (nI n))]) hx hb dX9_rank_148 rfl hl (by decide) rfl (fun ls hl => ?_)
                  refine lv_iinc (v := nI (q + 1)) (lv' := [(4, .int (nI (q + 1))), (3, .int ((rkO r (q + 1)).2)), (0, .ref (o 0)), (1, .int (nI K)), (2, .int ((rkI r (rkO r q).2 (rkO r q).1 (cl (r 2))).1)), (5, .int ((rkI r (rkO r q).2 (rkO r q).1 n).2)), (6, .int (nI n))]) hx hb dX9_rank_149 hl (k := 4) rfl (inc_nI q) (by decide) rfl (fun ls hl => ?_)
                  refine lv_goto (tgt := 33) hx hb dX9_rank_152 (by decide) ?_
                  have e9 : (rkO r (q + 1)).1 = (rkI r (rkO r q).2 (rkO r q).1 (cl (r 2))).1 := rfl
                  have hl : lv_has ls 9 [(4, .int (nI (q + 1))), (3, .int ((rkO r (q + 1)).2)), (0, .ref (o 0)), (1, .int (nI K)), (2, .int ((rkO r (q + 1)).1)), (5, .int ((rkI r (rkO r q).2 (rkO r q).1 n).2)), (6, .int (nI n))] := by rw [e9]; exact hl
                  exact ih33 (q + 1) (by omega) (by omega) _ _ hP hD hS _ (lv_sub hl [2, 3, 4, 1, 0] rfl)
                · skip
                  have c4' := Int32.not_le.mp c4
                  have hlt := lp_lt (by have := hw.n6; omega) c4
                  have hni := nut_nI hlt
                  refine lv_aload_n hx hb dX9_rank_56 rfl (lv_at hl 0 rfl) ?_
                  refine kget hC.1 hK (kP_app.mp hP).1 0 rfl rfl in_9 3 (by decide) (gw_in m_963 rfl) rfl dX9_rank_57 ?_
                  refine lv_bipush (v := 39) hx hb dX9_rank_60 rfl ?_
                  refine lv_iload hx hb dX9_rank_62 (lv_at hl 6 rfl) ?_
                  refine lv_iadd hx hb dX9_rank_64 ?_
                  refine kald (v := r (39 + n)) hC.1 hK (kP_app.mp (kP_app.mp (kP_app.mp hP).2).2).1 0 rfl (ix_in (K := 39) (yNut_in hni hw.n6) (by omega) (by omega)) ((congrArg r (show cl (39 + nI n) = 39 + cl (nI n) from ix_cl (K := 39) (yNut_in hni hw.n6) (by omega))).trans (by rw [cl_nI (by have := hw.n6; omega)])) dX9_rank_65 ?_
                  refine lv_aload_n hx hb dX9_rank_66 rfl (lv_at hl 0 rfl) ?_
                  refine kget hC.1 hK (kP_app.mp hP).1 0 rfl rfl in_9 3 (by decide) (gw_in m_963 rfl) rfl dX9_rank_67 ?_
                  refine lv_iload hx hb dX9_rank_70 (lv_at hl 6 rfl) ?_
                  refine ro_i (run_S (As := [.ref (o 2), .int (nI n)]) (rest := [.int (r (39 + n))]) hC.1 ckX9_isBroken (kX9_isBroken l g (o 2) r (nI n) (yNut_in hni hw.n6)) (gw_in m_1133 rfl) (fb_ro _ _ _) (fun U hU hW => ⟨by rw [hU]; exact (kP_app.mp (kP_app.mp (kP_app.mp hP).2).2).1, kK_warm hW hK⟩) ⟨rfl, rfl, Nat.le_of_ble_eq_true rfl, Nat.le_of_ble_eq_true rfl⟩ rfl hl.1 rfl (Nat.le_of_ble_eq_true rfl) dX9_rank_72 ⟨Nat.le_of_ble_eq_true rfl, Nat.le_of_ble_eq_true rfl⟩) ?_
                  refine lv_if_eq (tgt := 82) hx hb dX9_rank_75 (by decide) (fun c5 => ?_) (fun c5 => ?_)
                  · skip
                    have c5 := b2i_0 c5
                    refine lv_sipush (v := 1000) hx hb dX9_rank_82 rfl ?_
                    refine lv_iadd hx hb dX9_rank_85 ?_
                    refine top_i (x := (r (39 + n)) + 1000) (y := byM r n) (congrArg (fun z => r (39 + n) + z) (if_neg (by rw [c5]; decide)).symm) ?_
                    refine lv_istore (lv' := [(7, .int (byM r n)), (0, .ref (o 0)), (1, .int (nI K)), (2, .int ((rkI r (rkO r q).2 (rkO r q).1 n).1)), (3, .int ((rkO r q).2)), (4, .int (nI q)), (5, .int ((rkI r (rkO r q).2 (rkO r q).1 n).2)), (6, .int (nI n))]) hx hb dX9_rank_86 hl (by decide) rfl (fun ls hl => ?_)
                    refine lv_iload_n hx hb dX9_rank_88 rfl (lv_at hl 4 rfl) ?_
                    refine lv_iload hx hb dX9_rank_89 (lv_at hl 7 rfl) ?_
                    refine ro_i (run_S (As := [.int ((rkO r q).2), .int (nI n)]) (rest := []) hC.1 ckX9_has (kX9_has l (rkO r q).2 (nI n)) (gw_in m_1225 rfl) (fb_nil _) (fun _ _ _ => trivial) ⟨rfl, rfl, Nat.le_of_ble_eq_true rfl, Nat.le_of_ble_eq_true rfl⟩ rfl hl.1 rfl (Nat.le_of_ble_eq_true rfl) dX9_rank_91 ⟨Nat.le_of_ble_eq_true rfl, Nat.le_of_ble_eq_true rfl⟩) ?_
                    refine lv_if_ne (tgt := 108) hx hb dX9_rank_94 (by decide) (fun c6 => ?_) (fun c6 => ?_)
                    · skip
                      have c6 := b2i_1 c6
                      refine lv_iconst (v := 0) hx hb dX9_rank_108 rfl ?_
                      refine lv_istore (lv' := [(8, .int (0)), (7, .int (byM r n)), (0, .ref (o 0)), (1, .int (nI K)), (2, .int ((rkI r (rkO r q).2 (rkO r q).1 n).1)), (3, .int ((rkO r q).2)), (4, .int (nI q)), (5, .int ((rkI r (rkO r q).2 (rkO r q).1 n).2)), (6, .int (nI n))]) hx hb dX9_rank_109 hl (by decide) rfl (fun ls hl => ?_)
                      refine lv_iload hx hb dX9_rank_111 (lv_at hl 0 rfl) ?_
                      refine lv_if_eq (tgt := 121) hx hb dX9_rank_113 (by decide) (fun c7 => ?_) (fun c7 => ?_)
                      · skip
                        refine lv_iload_n hx hb dX9_rank_121 rfl (lv_at hl 4 rfl) ?_
                        refine lv_istore_n (lv' := [(2, .int ((rkI r (rkO r q).2 (rkO r q).1 n).1)), (8, .int (0)), (7, .int (byM r n)), (0, .ref (o 0)), (1, .int (nI K)), (3, .int ((rkO r q).2)), (4, .int (nI q)), (5, .int ((rkI r (rkO r q).2 (rkO r q).1 n).2)), (6, .int (nI n))]) hx hb dX9_rank_122 rfl hl (by decide) rfl (fun ls hl => ?_)
                        refine lv_iload hx hb dX9_rank_123 (lv_at hl 1 rfl) ?_
                        refine lv_if_eq (tgt := 133) hx hb dX9_rank_125 (by decide) (fun c8 => ?_) (fun c8 => ?_)
                        · skip
                          refine lv_iload hx hb dX9_rank_133 (lv_at hl 7 rfl) ?_
                          refine lv_istore (lv' := [(5, .int ((rkI r (rkO r q).2 (rkO r q).1 n).2)), (2, .int ((rkI r (rkO r q).2 (rkO r q).1 n).1)), (8, .int (0)), (7, .int (byM r n)), (0, .ref (o 0)), (1, .int (nI K)), (3, .int ((rkO r q).2)), (4, .int (nI q)), (6, .int (nI n))]) hx hb dX9_rank_135 hl (by decide) rfl (fun ls hl => ?_)
                          refine lv_iinc (v := nI (n + 1)) (lv' := [(6, .int (nI (n + 1))), (5, .int ((rkI r (rkO r q).2 (rkO r q).1 n).2)), (2, .int ((rkI r (rkO r q).2 (rkO r q).1 n).1)), (8, .int (0)), (7, .int (byM r n)), (0, .ref (o 0)), (1, .int (nI K)), (3, .int ((rkO r q).2)), (4, .int (nI q))]) hx hb dX9_rank_137 hl (k := 8) rfl (inc_nI n) (by decide) rfl (fun ls hl => ?_)
                          refine lv_goto (tgt := 45) hx hb dX9_rank_140 (by decide) ?_
                          have e9 : rkI r (rkO r q).2 (rkO r q).1 (n + 1) = rkI r (rkO r q).2 (rkO r q).1 n := by first | exact if_pos c6 | exact (if_neg (by rw [c6]; decide)).trans (if_pos c6) | exact (if_neg (by rw [c6]; decide)).trans (if_neg c6)
                          have hl : lv_has ls 9 [(6, .int (nI (n + 1))), (5, .int ((rkI r (rkO r q).2 (rkO r q).1 (n + 1)).2)), (2, .int ((rkI r (rkO r q).2 (rkO r q).1 (n + 1)).1)), (8, .int (0)), (7, .int (byM r n)), (0, .ref (o 0)), (1, .int (nI K)), (3, .int ((rkO r q).2)), (4, .int (nI q))] := by rw [e9]; exact hl
                          exact ih45 (n + 1) (by have := hw.n6; omega) (by omega) _ _ hP hD hS _ (lv_sub hl [5, 6, 2, 7, 8, 1, 0] rfl)
                        · skip
                          exact absurd c8 (by decide)
                      · skip
                        exact absurd c7 (by decide)
                    · skip
                      have c6 := b2i_0 c6
                      refine lv_iload hx hb dX9_rank_97 (lv_at hl 0 rfl) ?_
                      refine lv_iload hx hb dX9_rank_99 (lv_at hl 6 rfl) ?_
                      refine lv_icmp_le (tgt := 108) hx hb dX9_rank_101 (by decide) (fun c9 => ?_) (fun c9 => ?_)
                      · skip
                        have c9' := Int32.not_lt.mpr c9
                        refine lv_iconst (v := 0) hx hb dX9_rank_108 rfl ?_
                        refine lv_istore (lv' := [(8, .int (0)), (7, .int (byM r n)), (0, .ref (o 0)), (1, .int (nI K)), (2, .int ((rkI r (rkO r q).2 (rkO r q).1 n).1)), (3, .int ((rkO r q).2)), (4, .int (nI q)), (5, .int ((rkI r (rkO r q).2 (rkO r q).1 n).2)), (6, .int (nI n))]) hx hb dX9_rank_109 hl (by decide) rfl (fun ls hl => ?_)
                        refine lv_iload hx hb dX9_rank_111 (lv_at hl 0 rfl) ?_
                        refine lv_if_eq (tgt := 121) hx hb dX9_rank_113 (by decide) (fun c10 => ?_) (fun c10 => ?_)
                        · skip
                          refine lv_iload_n hx hb dX9_rank_121 rfl (lv_at hl 4 rfl) ?_
                          refine lv_istore_n (lv' := [(2, .int ((rkI r (rkO r q).2 (rkO r q).1 n).1)), (8, .int (0)), (7, .int (byM r n)), (0, .ref (o 0)), (1, .int (nI K)), (3, .int ((rkO r q).2)), (4, .int (nI q)), (5, .int ((rkI r (rkO r q).2 (rkO r q).1 n).2)), (6, .int (nI n))]) hx hb dX9_rank_122 rfl hl (by decide) rfl (fun ls hl => ?_)
                          refine lv_iload hx hb dX9_rank_123 (lv_at hl 1 rfl) ?_
                          refine lv_if_eq (tgt := 133) hx hb dX9_rank_125 (by decide) (fun c11 => ?_) (fun c11 => ?_)
                          · skip
                            refine lv_iload hx hb dX9_rank_133 (lv_at hl 7 rfl) ?_
                            refine lv_istore (lv' := [(5, .int ((rkI r (rkO r q).2 (rkO r q).1 n).2)), (2, .int ((rkI r (rkO r q).2 (rkO r q).1 n).1)), (8, .int (0)), (7, .int (byM r n)), (0, .ref (o 0)), (1, .int (nI K)), (3, .int ((rkO r q).2)), (4, .int (nI q)), (6, .int (nI n))]) hx hb dX9_rank_135 hl (by decide) rfl (fun ls hl => ?_)
                            refine lv_iinc (v := nI (n + 1)) (lv' := [(6, .int (nI (n + 1))), (5, .int ((rkI r (rkO r q).2 (rkO r q).1 n).2)), (2, .int ((rkI r (rkO r q).2 (rkO r q).1 n).1)), (8, .int (0)), (7, .int (byM r n)), (0, .ref (o 0)), (1, .int (nI K)), (3, .int ((rkO r q).2)), (4, .int (nI q))]) hx hb dX9_rank_137 hl (k := 8) rfl (inc_nI n) (by decide) rfl (fun ls hl => ?_)
                            refine lv_goto (tgt := 45) hx hb dX9_rank_140 (by decide) ?_
                            have e9 : rkI r (rkO r q).2 (rkO r q).1 (n + 1) = rkI r (rkO r q).2 (rkO r q).1 n := by first | exact if_pos c6 | exact (if_neg (by rw [c6]; decide)).trans (if_pos c9) | exact (if_neg (by rw [c6]; decide)).trans (if_neg c9)
                            have hl : lv_has ls 9 [(6, .int (nI (n + 1))), (5, .int ((rkI r (rkO r q).2 (rkO r q).1 (n + 1)).2)), (2, .int ((rkI r (rkO r q).2 (rkO r q).1 (n + 1)).1)), (8, .int (0)), (7, .int (byM r n)), (0, .ref (o 0)), (1, .int (nI K)), (3, .int ((rkO r q).2)), (4, .int (nI q))] := by rw [e9]; exact hl
                            exact ih45 (n + 1) (by have := hw.n6; omega) (by omega) _ _ hP hD hS _ (lv_sub hl [5, 6, 2, 7, 8, 1, 0] rfl)
                          · skip
                            exact absurd c11 (by decide)
                        · skip
                          exact absurd c10 (by decide)
                      · skip
                        have c9' := Int32.not_le.mp c9
                        refine lv_iconst (v := 1) hx hb dX9_rank_104 rfl ?_
                        refine lv_goto (tgt := 109) hx hb dX9_rank_105 (by decide) ?_
                        refine lv_istore (lv' := [(8, .int (1)), (7, .int (byM r n)), (0, .ref (o 0)), (1, .int (nI K)), (2, .int ((rkI r (rkO r q).2 (rkO r q).1 n).1)), (3, .int ((rkO r q).2)), (4, .int (nI q)), (5, .int ((rkI r (rkO r q).2 (rkO r q).1 n).2)), (6, .int (nI n))]) hx hb dX9_rank_109 hl (by decide) rfl (fun ls hl => ?_)
                        refine lv_iload hx hb dX9_rank_111 (lv_at hl 0 rfl) ?_
                        refine lv_if_eq (tgt := 121) hx hb dX9_rank_113 (by decide) (fun c12 => ?_) (fun c12 => ?_)
                        · skip
                          exact absurd c12 (by decide)
                        · skip
                          refine lv_iload hx hb dX9_rank_116 (lv_at hl 8 rfl) ?_
                          refine lv_goto (tgt := 122) hx hb dX9_rank_118 (by decide) ?_
                          refine lv_istore_n (lv' := [(2, .int (nI n)), (8, .int (1)), (7, .int (byM r n)), (0, .ref (o 0)), (1, .int (nI K)), (3, .int ((rkO r q).2)), (4, .int (nI q)), (5, .int ((rkI r (rkO r q).2 (rkO r q).1 n).2)), (6, .int (nI n))]) hx hb dX9_rank_122 rfl hl (by decide) rfl (fun ls hl => ?_)
                          refine lv_iload hx hb dX9_rank_123 (lv_at hl 1 rfl) ?_
                          refine lv_if_eq (tgt := 133) hx hb dX9_rank_125 (by decide) (fun c13 => ?_) (fun c13 => ?_)
                          · skip
                            exact absurd c13 (by decide)
                          · skip
                            refine lv_iload hx hb dX9_rank_128 (lv_at hl 2 rfl) ?_
                            refine lv_goto (tgt := 135) hx hb dX9_rank_130 (by decide) ?_
                            refine lv_istore (lv' := [(5, .int (byM r n)), (2, .int (nI n)), (8, .int (1)), (7, .int (byM r n)), (0, .ref (o 0)), (1, .int (nI K)), (3, .int ((rkO r q).2)), (4, .int (nI q)), (6, .int (nI n))]) hx hb dX9_rank_135 hl (by decide) rfl (fun ls hl => ?_)
                            refine lv_iinc (v := nI (n + 1)) (lv' := [(6, .int (nI (n + 1))), (5, .int (byM r n)), (2, .int (nI n)), (8, .int (1)), (7, .int (byM r n)), (0, .ref (o 0)), (1, .int (nI K)), (3, .int ((rkO r q).2)), (4, .int (nI q))]) hx hb dX9_rank_137 hl (k := 8) rfl (inc_nI n) (by decide) rfl (fun ls hl => ?_)
                            refine lv_goto (tgt := 45) hx hb dX9_rank_140 (by decide) ?_
                            have e9 : rkI r (rkO r q).2 (rkO r q).1 (n + 1) = (nI n, byM r n) := by first | exact if_pos c6 | exact (if_neg (by rw [c6]; decide)).trans (if_pos c9) | exact (if_neg (by rw [c6]; decide)).trans (if_neg c9)
                            have hl : lv_has ls 9 [(6, .int (nI (n + 1))), (5, .int ((rkI r (rkO r q).2 (rkO r q).1 (n + 1)).2)), (2, .int ((rkI r (rkO r q).2 (rkO r q).1 (n + 1)).1)), (8, .int (1)), (7, .int (byM r n)), (0, .ref (o 0)), (1, .int (nI K)), (3, .int ((rkO r q).2)), (4, .int (nI q))] := by rw [e9]; exact hl
                            exact ih45 (n + 1) (by have := hw.n6; omega) (by omega) _ _ hP hD hS _ (lv_sub hl [5, 6, 2, 7, 8, 1, 0] rfl)
                  · skip
                    have c5 := b2i_1 c5
                    refine lv_iconst (v := 0) hx hb dX9_rank_78 rfl ?_
                    refine lv_goto (tgt := 85) hx hb dX9_rank_79 (by decide) ?_
                    refine lv_iadd hx hb dX9_rank_85 ?_
                    refine top_i (x := (r (39 + n)) + 0) (y := byM r n) (congrArg (fun z => r (39 + n) + z) (if_pos c5).symm) ?_
                    refine lv_istore (lv' := [(7, .int (byM r n)), (0, .ref (o 0)), (1, .int (nI K)), (2, .int ((rkI r (rkO r q).2 (rkO r q).1 n).1)), (3, .int ((rkO r q).2)), (4, .int (nI q)), (5, .int ((rkI r (rkO r q).2 (rkO r q).1 n).2)), (6, .int (nI n))]) hx hb dX9_rank_86 hl (by decide) rfl (fun ls hl => ?_)
                    refine lv_iload_n hx hb dX9_rank_88 rfl (lv_at hl 4 rfl) ?_
                    refine lv_iload hx hb dX9_rank_89 (lv_at hl 7 rfl) ?_
                    refine ro_i (run_S (As := [.int ((rkO r q).2), .int (nI n)]) (rest := []) hC.1 ckX9_has (kX9_has l (rkO r q).2 (nI n)) (gw_in m_1225 rfl) (fb_nil _) (fun _ _ _ => trivial) ⟨rfl, rfl, Nat.le_of_ble_eq_true rfl, Nat.le_of_ble_eq_true rfl⟩ rfl hl.1 rfl (Nat.le_of_ble_eq_true rfl) dX9_rank_91 ⟨Nat.le_of_ble_eq_true rfl, Nat.le_of_ble_eq_true rfl⟩) ?_
                    refine lv_if_ne (tgt := 108) hx hb dX9_rank_94 (by decide) (fun c14 => ?_) (fun c14 => ?_)
                    · skip
                      have c14 := b2i_1 c14
                      refine lv_iconst (v := 0) hx hb dX9_rank_108 rfl ?_
                      refine lv_istore (lv' := [(8, .int (0)), (7, .int (byM r n)), (0, .ref (o 0)), (1, .int (nI K)), (2, .int ((rkI r (rkO r q).2 (rkO r q).1 n).1)), (3, .int ((rkO r q).2)), (4, .int (nI q)), (5, .int ((rkI r (rkO r q).2 (rkO r q).1 n).2)), (6, .int (nI n))]) hx hb dX9_rank_109 hl (by decide) rfl (fun ls hl => ?_)
                      refine lv_iload hx hb dX9_rank_111 (lv_at hl 0 rfl) ?_
                      refine lv_if_eq (tgt := 121) hx hb dX9_rank_113 (by decide) (fun c15 => ?_) (fun c15 => ?_)
                      · skip
                        refine lv_iload_n hx hb dX9_rank_121 rfl (lv_at hl 4 rfl) ?_
                        refine lv_istore_n (lv' := [(2, .int ((rkI r (rkO r q).2 (rkO r q).1 n).1)), (8, .int (0)), (7, .int (byM r n)), (0, .ref (o 0)), (1, .int (nI K)), (3, .int ((rkO r q).2)), (4, .int (nI q)), (5, .int ((rkI r (rkO r q).2 (rkO r q).1 n).2)), (6, .int (nI n))]) hx hb dX9_rank_122 rfl hl (by decide) rfl (fun ls hl => ?_)
                        refine lv_iload hx hb dX9_rank_123 (lv_at hl 1 rfl) ?_
                        refine lv_if_eq (tgt := 133) hx hb dX9_rank_125 (by decide) (fun c16 => ?_) (fun c16 => ?_)
                        · skip
                          refine lv_iload hx hb dX9_rank_133 (lv_at hl 7 rfl) ?_
                          refine lv_istore (lv' := [(5, .int ((rkI r (rkO r q).2 (rkO r q).1 n).2)), (2, .int ((rkI r (rkO r q).2 (rkO r q).1 n).1)), (8, .int (0)), (7, .int (byM r n)), (0, .ref (o 0)), (1, .int (nI K)), (3, .int ((rkO r q).2)), (4, .int (nI q)), (6, .int (nI n))]) hx hb dX9_rank_135 hl (by decide) rfl (fun ls hl => ?_)
                          refine lv_iinc (v := nI (n + 1)) (lv' := [(6, .int (nI (n + 1))), (5, .int ((rkI r (rkO r q).2 (rkO r q).1 n).2)), (2, .int ((rkI r (rkO r q).2 (rkO r q).1 n).1)), (8, .int (0)), (7, .int (byM r n)), (0, .ref (o 0)), (1, .int (nI K)), (3, .int ((rkO r q).2)), (4, .int (nI q))]) hx hb dX9_rank_137 hl (k := 8) rfl (inc_nI n) (by decide) rfl (fun ls hl => ?_)
                          refine lv_goto (tgt := 45) hx hb dX9_rank_140 (by decide) ?_
                          have e9 : rkI r (rkO r q).2 (rkO r q).1 (n + 1) = rkI r (rkO r q).2 (rkO r q).1 n := by first | exact if_pos c14 | exact (if_neg (by rw [c14]; decide)).trans (if_pos c14) | exact (if_neg (by rw [c14]; decide)).trans (if_neg c14)
                          have hl : lv_has ls 9 [(6, .int (nI (n + 1))), (5, .int ((rkI r (rkO r q).2 (rkO r q).1 (n + 1)).2)), (2, .int ((rkI r (rkO r q).2 (rkO r q).1 (n + 1)).1)), (8, .int (0)), (7, .int (byM r n)), (0, .ref (o 0)), (1, .int (nI K)), (3, .int ((rkO r q).2)), (4, .int (nI q))] := by rw [e9]; exact hl
                          exact ih45 (n + 1) (by have := hw.n6; omega) (by omega) _ _ hP hD hS _ (lv_sub hl [5, 6, 2, 7, 8, 1, 0] rfl)
                        · skip
                          exact absurd c16 (by decide)
                      · skip
                        exact absurd c15 (by decide)
                    · skip
                      have c14 := b2i_0 c14
                      refine lv_iload hx hb dX9_rank_97 (lv_at hl 0 rfl) ?_
                      refine lv_iload hx hb dX9_rank_99 (lv_at hl 6 rfl) ?_
                      refine lv_icmp_le (tgt := 108) hx hb dX9_rank_101 (by decide) (fun c17 => ?_) (fun c17 => ?_)
                      · skip
                        have c17' := Int32.not_lt.mpr c17
                        refine lv_iconst (v := 0) hx hb dX9_rank_108 rfl ?_
                        refine lv_istore (lv' := [(8, .int (0)), (7, .int (byM r n)), (0, .ref (o 0)), (1, .int (nI K)), (2, .int ((rkI r (rkO r q).2 (rkO r q).1 n).1)), (3, .int ((rkO r q).2)), (4, .int (nI q)), (5, .int ((rkI r (rkO r q).2 (rkO r q).1 n).2)), (6, .int (nI n))]) hx hb dX9_rank_109 hl (by decide) rfl (fun ls hl => ?_)
                        refine lv_iload hx hb dX9_rank_111 (lv_at hl 0 rfl) ?_
                        refine lv_if_eq (tgt := 121) hx hb dX9_rank_113 (by decide) (fun c18 => ?_) (fun c18 => ?_)
                        · skip
                          refine lv_iload_n hx hb dX9_rank_121 rfl (lv_at hl 4 rfl) ?_
                          refine lv_istore_n (lv' := [(2, .int ((rkI r (rkO r q).2 (rkO r q).1 n).1)), (8, .int (0)), (7, .int (byM r n)), (0, .ref (o 0)), (1, .int (nI K)), (3, .int ((rkO r q).2)), (4, .int (nI q)), (5, .int ((rkI r (rkO r q).2 (rkO r q).1 n).2)), (6, .int (nI n))]) hx hb dX9_rank_122 rfl hl (by decide) rfl (fun ls hl => ?_)
                          refine lv_iload hx hb dX9_rank_123 (lv_at hl 1 rfl) ?_
                          refine lv_if_eq (tgt := 133) hx hb dX9_rank_125 (by decide) (fun c19 => ?_) (fun c19 => ?_)
                          · skip
                            refine lv_iload hx hb dX9_rank_133 (lv_at hl 7 rfl) ?_
                            refine lv_istore (lv' := [(5, .int ((rkI r (rkO r q).2 (rkO r q).1 n).2)), (2, .int ((rkI r (rkO r q).2 (rkO r q).1 n).1)), (8, .int (0)), (7, .int (byM r n)), (0, .ref (o 0)), (1, .int (nI K)), (3, .int ((rkO r q).2)), (4, .int (nI q)), (6, .int (nI n))]) hx hb dX9_rank_135 hl (by decide) rfl (fun ls hl => ?_)
                            refine lv_iinc (v := nI (n + 1)) (lv' := [(6, .int (nI (n + 1))), (5, .int ((rkI r (rkO r q).2 (rkO r q).1 n).2)), (2, .int ((rkI r (rkO r q).2 (rkO r q).1 n).1)), (8, .int (0)), (7, .int (byM r n)), (0, .ref (o 0)), (1, .int (nI K)), (3, .int ((rkO r q).2)), (4, .int (nI q))]) hx hb dX9_rank_137 hl (k := 8) rfl (inc_nI n) (by decide) rfl (fun ls hl => ?_)
                            refine lv_goto (tgt := 45) hx hb dX9_rank_140 (by decide) ?_
                            have e9 : rkI r (rkO r q).2 (rkO r q).1 (n + 1) = rkI r (rkO r q).2 (rkO r q).1 n := by first | exact if_pos c14 | exact (if_neg (by rw [c14]; decide)).trans (if_pos c17) | exact (if_neg (by rw [c14]; decide)).trans (if_neg c17)
                            have hl : lv_has ls 9 [(6, .int (nI (n + 1))), (5, .int ((rkI r (rkO r q).2 (rkO r q).1 (n + 1)).2)), (2, .int ((rkI r (rkO r q).2 (rkO r q).1 (n + 1)).1)), (8, .int (0)), (7, .int (byM r n)), (0, .ref (o 0)), (1, .int (nI K)), (3, .int ((rkO r q).2)), (4, .int (nI q))] := by rw [e9]; exact hl
                            exact ih45 (n + 1) (by have := hw.n6; omega) (by omega) _ _ hP hD hS _ (lv_sub hl [5, 6, 2, 7, 8, 1, 0] rfl)
                          · skip
                            exact absurd c19 (by decide)
                        · skip
                          exact absurd c18 (by decide)
                      · skip
                        have c17' := Int32.not_le.mp c17
                        refine lv_iconst (v := 1) hx hb dX9_rank_104 rfl ?_
                        refine lv_goto (tgt := 109) hx hb dX9_rank_105 (by decide) ?_
                        refine lv_istore (lv' := [(8, .int (1)), (7, .int (byM r n)), (0, .ref (o 0)), (1, .int (nI K)), (2, .int ((rkI r (rkO r q).2 (rkO r q).1 n).1)), (3, .int ((rkO r q).2)), (4, .int (nI q)), (5, .int ((rkI r (rkO r q).2 (rkO r q).1 n).2)), (6, .int (nI n))]) hx hb dX9_rank_109 hl (by decide) rfl (fun ls hl => ?_)
                        refine lv_iload hx hb dX9_rank_111 (lv_at hl 0 rfl) ?_
                        refine lv_if_eq (tgt := 121) hx hb dX9_rank_113 (by decide) (fun c20 => ?_) (fun c20 => ?_)
                        · skip
                          exact absurd c20 (by decide)
                        · skip
                          refine lv_iload hx hb dX9_rank_116 (lv_at hl 8 rfl) ?_
                          refine lv_goto (tgt := 122) hx hb dX9_rank_118 (by decide) ?_
                          refine lv_istore_n (lv' := [(2, .int (nI n)), (8, .int (1)), (7, .int (byM r n)), (0, .ref (o 0)), (1, .int (nI K)), (3, .int ((rkO r q).2)), (4, .int (nI q)), (5, .int ((rkI r (rkO r q).2 (rkO r q).1 n).2)), (6, .int (nI n))]) hx hb dX9_rank_122 rfl hl (by decide) rfl (fun ls hl => ?_)
                          refine lv_iload hx hb dX9_rank_123 (lv_at hl 1 rfl) ?_
                          refine lv_if_eq (tgt := 133) hx hb dX9_rank_125 (by decide) (fun c21 => ?_) (fun c21 => ?_)
                          · skip
                            exact absurd c21 (by decide)
                          · skip
                            refine lv_iload hx hb dX9_rank_128 (lv_at hl 2 rfl) ?_
                            refine lv_goto (tgt := 135) hx hb dX9_rank_130 (by decide) ?_
                            refine lv_istore (lv' := [(5, .int (byM r n)), (2, .int (nI n)), (8, .int (1)), (7, .int (byM r n)), (0, .ref (o 0)), (1, .int (nI K)), (3, .int ((rkO r q).2)), (4, .int (nI q)), (6, .int (nI n))]) hx hb dX9_rank_135 hl (by decide) rfl (fun ls hl => ?_)
                            refine lv_iinc (v := nI (n + 1)) (lv' := [(6, .int (nI (n + 1))), (5, .int (byM r n)), (2, .int (nI n)), (8, .int (1)), (7, .int (byM r n)), (0, .ref (o 0)), (1, .int (nI K)), (3, .int ((rkO r q).2)), (4, .int (nI q))]) hx hb dX9_rank_137 hl (k := 8) rfl (inc_nI n) (by decide) rfl (fun ls hl => ?_)
                            refine lv_goto (tgt := 45) hx hb dX9_rank_140 (by decide) ?_
                            have e9 : rkI r (rkO r q).2 (rkO r q).1 (n + 1) = (nI n, byM r n) := by first | exact if_pos c14 | exact (if_neg (by rw [c14]; decide)).trans (if_pos c17) | exact (if_neg (by rw [c14]; decide)).trans (if_neg c17)
                            have hl : lv_has ls 9 [(6, .int (nI (n + 1))), (5, .int ((rkI r (rkO r q).2 (rkO r q).1 (n + 1)).2)), (2, .int ((rkI r (rkO r q).2 (rkO r q).1 (n + 1)).1)), (8, .int (1)), (7, .int (byM r n)), (0, .ref (o 0)), (1, .int (nI K)), (3, .int ((rkO r q).2)), (4, .int (nI q))] := by rw [e9]; exact hl
                            exact ih45 (n + 1) (by have := hw.n6; omega) (by omega) _ _ hP hD hS _ (lv_sub hl [5, 6, 2, 7, 8, 1, 0] rfl)
            exact cut45 _ 0 (Nat.lt_succ_self _) (by have := hw.2.2.1.1; exact this) _ _ hP hD hS _ (lv_sub hl [2, 3, 4, 5, 6, 1, 0] rfl)
      exact cut33 _ 0 (Nat.lt_succ_self _) (by omega) _ _ hP hD hS _ (lv_sub hl [3, 4, 2, 1, 0] rfl)
    · skip
      have c2' := Int32.not_lt.mp c2
      refine lv_aload_n hx hb dX9_rank_21 rfl (lv_at hl 0 rfl) ?_
      refine rw_i (run_V (As := []) (rest := []) hC.1 ckX9_no (kX9_no l g o ab be lm ra ta ti fa um ua hh rf) (gw_in m_1186 rfl) (fb_rw _ _ _) (va_recv hK.1 (kP_app.mp hP).1 (q0 := 0) rfl rfl) (fun U hU hW => ⟨by rw [hU]; exact (kP_app.mpr ⟨(kP_app.mp hP).1, (kP_app.mpr ⟨(kP_app.mp (kP_app.mp hP).2).1, kP_nil⟩)⟩), kK_warm hW hK, vD_sub (sbA _ (sbA _ (sb0 _))) hD⟩) ⟨rfl, rfl, Nat.le_of_ble_eq_true rfl, Nat.le_of_ble_eq_true rfl⟩ rfl hl.1 rfl (Nat.le_of_ble_eq_true rfl) dX9_rank_22 ⟨Nat.le_of_ble_eq_true rfl, Nat.le_of_ble_eq_true rfl⟩) (adr_app rfl (adr_app aW_adr rfl)) (asc2 _ _ _) (ww' := mO g o ab be lm ra ta ti fa um ua hh ++ (aW g (o 1) 3 (upd rf 1 (rf 1 + 1)) ++ (aW g (o 2) 45 r ++ []))) (asc2 _ _ _) hP hD hS (fun H locs hP hD hS => ?_)
      exact ret_rwi hx hb hr hlk (by rw [if_neg c1', if_pos c2']) (kP_eq (by rw [if_neg c1', if_pos c2']) hP) hS dX9_rank_25
  · skip
    have c1' := Int32.not_le.mp c1
    refine lv_aload_n hx hb dX9_rank_4 rfl (lv_at hl 0 rfl) ?_
    refine lv_bipush (v := -2) hx hb dX9_rank_5 rfl ?_
    refine rw_i (run_V (As := [.int (-2)]) (rest := []) hC.1 ckX9_bad (kX9_bad l g o ab be lm ra ta ti fa um ua hh rf (-2)) (gw_in m_1041 rfl) (fb_rw _ _ _) (va_recv hK.1 (kP_app.mp hP).1 (q0 := 0) rfl rfl) (fun U hU hW => ⟨by rw [hU]; exact (kP_app.mpr ⟨(kP_app.mp hP).1, (kP_app.mpr ⟨(kP_app.mp (kP_app.mp hP).2).1, kP_nil⟩)⟩), kK_warm hW hK, vD_sub (sbA _ (sbA _ (sb0 _))) hD⟩) ⟨rfl, rfl, Nat.le_of_ble_eq_true rfl, Nat.le_of_ble_eq_true rfl⟩ rfl hl.1 rfl (Nat.le_of_ble_eq_true rfl) dX9_rank_7 ⟨Nat.le_of_ble_eq_true rfl, Nat.le_of_ble_eq_true rfl⟩) (adr_app rfl (adr_app aW_adr rfl)) (asc2 _ _ _) (ww' := mO g o ab be lm ra ta ti fa um ua hh ++ (aW g (o 1) 3 (upd rf 0 (rf 0 + 1)) ++ (aW g (o 2) 45 r ++ []))) (asc2 _ _ _) hP hD hS (fun H locs hP hD hS => ?_)
    exact ret_rwi hx hb hr hlk (by rw [if_pos c1']) (kP_eq (by rw [if_pos c1']) hP) hS dX9_rank_10
set_option maxHeartbeats 4000000 in
set_option maxRecDepth 100000 in
theorem kX9_isOrder (l : Launch) (C : Nat) (s : Int32) (M : Nat) (hC6 : C < 50000) (hM6 : M ≤ 6) : Met l yX9_isOrder (.code yX9_isOrder cX9_isOrder 6 (some .boolean) :: gw) (rmN 0) (va_Pc [.int (nI C), .int (s), .int (nI M)] (fun _ => True)) (vp_Si (fun v => v = (b2i (decide (ioU C M = s))))) 0 0 (fun _ => False) := by
  refine met_start (by decide) (Nat.le_of_ble_eq_true rfl) ?_
  intro pp ee ss mm bl mt cd hC hpre ls hl
  obtain ⟨⟨hx, hb, hml, hown, hts⟩, hr, hlk, hnm⟩ := id hC
  have hl : lv_has ls 6 [(0, .int (nI C)), (1, .int (s)), (2, .int (nI M))] := hl
  refine lv_iconst (v := 0) hx hb dX9_isOrder_0 rfl ?_
  refine lv_istore_n (lv' := [(3, .int (0)), (0, .int (nI C)), (1, .int (s)), (2, .int (nI M))]) hx hb dX9_isOrder_1 rfl hl (by decide) rfl (fun ls hl => ?_)
  refine lv_iload_n hx hb dX9_isOrder_2 rfl (lv_at hl 1 rfl) ?_
  refine lv_istore (lv' := [(4, .int (nI C)), (3, .int (0)), (0, .int (nI C)), (1, .int (s)), (2, .int (nI M))]) hx hb dX9_isOrder_3 hl (by decide) rfl (fun ls hl => ?_)
  refine lv_iconst (v := 0) hx hb dX9_isOrder_5 rfl ?_
  refine lv_istore (lv' := [(5, .int (0)), (4, .int (nI C)), (3, .int (0)), (0, .int (nI C)), (1, .int (s)), (2, .int (nI M))]) hx hb dX9_isOrder_6 hl (by decide) rfl (fun ls hl => ?_)
  have cut8 : ∀ kk : Nat, ∀ (n : Nat), M + 1 - n < kk → (hn : n ≤ M) → ∀ (ls : Array Slot), lv_has ls 6 [(0, .int (nI C)), (1, .int (s)), (2, .int (nI M)), (3, .int (ioU C n)), (4, .int (nI (C / 6 ^ n))), (5, .int (nI n))] → W pp l ee (rmN 0) ss mm ([.int (nI C), .int (s), .int (nI M)] : List Value).toArray bl mt cd ss.heap [] 0 0 (MQ bl (vp_Si (fun v => v = (b2i (decide (ioU C M = s))))) ([.int (nI C), .int (s), .int (nI M)] : List Value).toArray ss 0 0 (fun _ => False)) (F0 mm 8 ls []) := by
    intro kk
    induction kk with
    | zero => intro n hmu; exact absurd hmu (Nat.not_lt_zero _)
    | succ kk ih8 =>
      intro n hmu hn ls hl
      have hq := Nat.div_le_self C (6 ^ n)
      refine lv_iload hx hb dX9_isOrder_8 (lv_at hl 5 rfl) ?_
      refine lv_iload_n hx hb dX9_isOrder_10 rfl (lv_at hl 2 rfl) ?_
      refine lv_icmp_ge (tgt := 37) hx hb dX9_isOrder_11 (by decide) (fun c1 => ?_) (fun c1 => ?_)
      · skip
        have c1' := Int32.not_lt.mpr c1
        have hn9 : n = M := by rw [nI_leI (by omega) (by omega)] at c1; omega
        subst hn9
        refine lv_iload_n hx hb dX9_isOrder_37 rfl (lv_at hl 3 rfl) ?_
        refine lv_iload_n hx hb dX9_isOrder_38 rfl (lv_at hl 1 rfl) ?_
        refine lv_icmp_ne (tgt := 46) hx hb dX9_isOrder_39 (by decide) (fun c2 => ?_) (fun c2 => ?_)
        · skip
          refine lv_iconst (v := 0) hx hb dX9_isOrder_46 rfl ?_
          exact ret_roz hx hb hr hlk rfl (by simp [b2i, hn, c1, c1', c2]) dX9_isOrder_47
        · skip
          refine lv_iconst (v := 1) hx hb dX9_isOrder_42 rfl ?_
          refine lv_goto (tgt := 47) hx hb dX9_isOrder_43 (by decide) ?_
          exact ret_roz hx hb hr hlk rfl (by simp [b2i, hn, c1, c1', c2]) dX9_isOrder_47
      · skip
        have c1' := Int32.not_le.mp c1
        have hn9 : n < M := by rw [nI_leI (by omega) (by omega)] at c1; omega
        refine lv_iload_n hx hb dX9_isOrder_14 rfl (lv_at hl 3 rfl) ?_
        refine lv_iconst (v := 1) hx hb dX9_isOrder_15 rfl ?_
        refine lv_iload hx hb dX9_isOrder_16 (lv_at hl 4 rfl) ?_
        refine lv_bipush (v := 6) hx hb dX9_isOrder_18 rfl ?_
        refine lv_irem hx hb dX9_isOrder_20 (by decide) ?_
        refine top_i (x := (nI (C / 6 ^ n)) - (nI (C / 6 ^ n)) / 6 * 6) (y := nI (C / 6 ^ n % 6)) (pk_rem (d := 6) (by omega) (by omega) (by omega)) ?_
        refine lv_ishl hx hb dX9_isOrder_21 ?_
        refine lv_ior hx hb dX9_isOrder_22 ?_
        refine top_i (x := (ioU C n) ||| (1 <<< ((nI (C / 6 ^ n % 6)) &&& 31))) (y := ioU C (n + 1)) rfl ?_
        refine lv_istore_n (lv' := [(3, .int (ioU C (n + 1))), (0, .int (nI C)), (1, .int (s)), (2, .int (nI M)), (4, .int (nI (C / 6 ^ n))), (5, .int (nI n))]) hx hb dX9_isOrder_23 rfl hl (by decide) rfl (fun ls hl => ?_)
        refine lv_iload hx hb dX9_isOrder_24 (lv_at hl 4 rfl) ?_
        refine lv_bipush (v := 6) hx hb dX9_isOrder_26 rfl ?_
        refine lv_idiv hx hb dX9_isOrder_28 (by decide) ?_
        refine top_i (x := (nI (C / 6 ^ n)) / 6) (y := nI (C / 6 ^ (n + 1))) ((pk_div (d := 6) (by omega) (by omega) (by omega)).trans (by rw [Nat.div_div_eq_div_mul, ← Nat.pow_succ])) ?_
        refine lv_istore (lv' := [(4, .int (nI (C / 6 ^ (n + 1)))), (3, .int (ioU C (n + 1))), (0, .int (nI C)), (1, .int (s)), (2, .int (nI M)), (5, .int (nI n))]) hx hb dX9_isOrder_29 hl (by decide) rfl (fun ls hl => ?_)
        refine lv_iinc (v := nI (n + 1)) (lv' := [(5, .int (nI (n + 1))), (4, .int (nI (C / 6 ^ (n + 1)))), (3, .int (ioU C (n + 1))), (0, .int (nI C)), (1, .int (s)), (2, .int (nI M))]) hx hb dX9_isOrder_31 hl (k := 5) rfl (inc_nI n) (by decide) rfl (fun ls hl => ?_)
        refine lv_goto (tgt := 8) hx hb dX9_isOrder_34 (by decide) ?_
        exact ih8 (n + 1) (by omega) (by omega) _ (lv_sub hl [3, 4, 5, 2, 1, 0] rfl)
  have hl : lv_has ls 6 [(5, .int (0)), (4, .int (nI (C / 6 ^ 0))), (3, .int (0)), (0, .int (nI C)), (1, .int (s)), (2, .int (nI M))] := by rw [Nat.pow_zero, Nat.div_one]; exact hl
  exact cut8 _ 0 (Nat.lt_succ_self _) (by omega) _ (lv_sub hl [3, 4, 5, 2, 1, 0] rfl)
set_option maxHeartbeats 4000000 in
set_option maxRecDepth 100000 in
theorem kX9_placeIn (l : Launch) (C M K : Nat) (hC6 : C < 50000) (hM6 : M ≤ 6) (hK6 : K < M) : Met l yX9_placeIn (.code yX9_placeIn cX9_placeIn 5 (some .int) :: gw) (rmN 0) (va_Pc [.int (nI C), .int (nI M), .int (nI K)] (fun _ => True)) (vp_Si (fun v => v = (nI (plI C M K)))) 0 0 (fun _ => False) := by
  refine met_start (by decide) (Nat.le_of_ble_eq_true rfl) ?_
  intro pp ee ss mm bl mt cd hC hpre ls hl
  obtain ⟨⟨hx, hb, hml, hown, hts⟩, hr, hlk, hnm⟩ := id hC
  have hl : lv_has ls 5 [(0, .int (nI C)), (1, .int (nI M)), (2, .int (nI K))] := hl
  refine lv_iload_n hx hb dX9_placeIn_0 rfl (lv_at hl 0 rfl) ?_
  refine lv_istore_n (lv' := [(3, .int (nI C)), (0, .int (nI C)), (1, .int (nI M)), (2, .int (nI K))]) hx hb dX9_placeIn_1 rfl hl (by decide) rfl (fun ls hl => ?_)
  refine lv_iload_n hx hb dX9_placeIn_2 rfl (lv_at hl 2 rfl) ?_
  refine lv_iconst (v := 1) hx hb dX9_placeIn_3 rfl ?_
  refine lv_isub hx hb dX9_placeIn_4 ?_
  refine top_i (x := (nI M) - 1) (y := nI (M - 1)) (show nI M - nI 1 = _ from pk_sub (by omega)) ?_
  refine lv_istore (lv' := [(4, .int (nI (M - 1))), (3, .int (nI C)), (0, .int (nI C)), (1, .int (nI M)), (2, .int (nI K))]) hx hb dX9_placeIn_5 hl (by decide) rfl (fun ls hl => ?_)
  have cut7 : ∀ kk : Nat, ∀ (n : Nat), M - n < kk → (hn : n + K < M) → ∀ (ls : Array Slot), lv_has ls 5 [(0, .int (nI C)), (1, .int (nI M)), (2, .int (nI K)), (3, .int (nI (C / 6 ^ n))), (4, .int (nI (M - 1 - n)))] → W pp l ee (rmN 0) ss mm ([.int (nI C), .int (nI M), .int (nI K)] : List Value).toArray bl mt cd ss.heap [] 0 0 (MQ bl (vp_Si (fun v => v = (nI (plI C M K)))) ([.int (nI C), .int (nI M), .int (nI K)] : List Value).toArray ss 0 0 (fun _ => False)) (F0 mm 7 ls []) := by
    intro kk
    induction kk with
    | zero => intro n hmu; exact absurd hmu (Nat.not_lt_zero _)
    | succ kk ih7 =>
      intro n hmu hn ls hl
      have hq := Nat.div_le_self C (6 ^ n)
      refine lv_iload hx hb dX9_placeIn_7 (lv_at hl 4 rfl) ?_
      refine lv_iload_n hx hb dX9_placeIn_9 rfl (lv_at hl 2 rfl) ?_
      refine lv_icmp_le (tgt := 24) hx hb dX9_placeIn_10 (by decide) (fun c1 => ?_) (fun c1 => ?_)
      · skip
        have c1' := Int32.not_lt.mpr c1
        have hn9 : n = M - 1 - K := by rw [nI_leI (by omega) (by omega)] at c1; omega
        refine lv_iload_n hx hb dX9_placeIn_24 rfl (lv_at hl 3 rfl) ?_
        refine lv_bipush (v := 6) hx hb dX9_placeIn_25 rfl ?_
        refine lv_irem hx hb dX9_placeIn_27 (by decide) ?_
        refine top_i (x := (nI (C / 6 ^ n)) - (nI (C / 6 ^ n)) / 6 * 6) (y := nI (C / 6 ^ n % 6)) (pk_rem (d := 6) (by omega) (by omega) (by omega)) ?_
        exact ret_roi hx hb hr hlk (by unfold plI; rw [← hn9]) dX9_placeIn_28
      · skip
        have c1' := Int32.not_le.mp c1
        have hn9 : n + K + 1 < M := by rw [nI_leI (by omega) (by omega)] at c1; omega
        refine lv_iload_n hx hb dX9_placeIn_13 rfl (lv_at hl 3 rfl) ?_
        refine lv_bipush (v := 6) hx hb dX9_placeIn_14 rfl ?_
        refine lv_idiv hx hb dX9_placeIn_16 (by decide) ?_
        refine top_i (x := (nI (C / 6 ^ n)) / 6) (y := nI (C / 6 ^ (n + 1))) ((pk_div (d := 6) (by omega) (by omega) (by omega)).trans (by rw [Nat.div_div_eq_div_mul, ← Nat.pow_succ])) ?_
        refine lv_istore_n (lv' := [(3, .int (nI (C / 6 ^ (n + 1)))), (0, .int (nI C)), (1, .int (nI M)), (2, .int (nI K)), (4, .int (nI (M - 1 - n)))]) hx hb dX9_placeIn_17 rfl hl (by decide) rfl (fun ls hl => ?_)
        refine lv_iinc (v := (nI (M - 1 - n)) + (-1)) (lv' := [(4, .int ((nI (M - 1 - n)) + (-1))), (3, .int (nI (C / 6 ^ (n + 1)))), (0, .int (nI C)), (1, .int (nI M)), (2, .int (nI K))]) hx hb dX9_placeIn_18 hl (k := 4) rfl rfl (by decide) rfl (fun ls hl => ?_)
        refine lv_goto (tgt := 7) hx hb dX9_placeIn_21 (by decide) ?_
        have e4 : nI (M - 1 - (n + 1)) = (nI (M - 1 - n)) + (-1) := by rw [show M - 1 - n = (M - 1 - (n + 1)) + 1 from by omega]; exact (pk_m1 _).symm
        have hl : lv_has ls 5 [(4, .int (nI (M - 1 - (n + 1)))), (3, .int (nI (C / 6 ^ (n + 1)))), (0, .int (nI C)), (1, .int (nI M)), (2, .int (nI K))] := by rw [e4]; exact hl
        exact ih7 (n + 1) (by omega) (by omega) _ (lv_sub hl [2, 3, 4, 1, 0] rfl)
  have hl : lv_has ls 5 [(4, .int (nI (M - 1 - 0))), (3, .int (nI (C / 6 ^ 0))), (0, .int (nI C)), (1, .int (nI M)), (2, .int (nI K))] := by rw [Nat.pow_zero, Nat.div_one, Nat.sub_zero]; exact hl
  exact cut7 _ 0 (Nat.lt_succ_self _) (by omega) _ (lv_sub hl [2, 3, 4, 1, 0] rfl)
