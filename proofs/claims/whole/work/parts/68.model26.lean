theorem ckX9_fit : ckV yX9_fit cX9_fit 8 (some .int) 2 := ⟨(gw_in m_1274 rfl), (gw_in m_71 rfl), ⟨(gw_in m_1272 rfl), (gw_in m_1273 rfl)⟩, by decide +kernel, by decide +kernel, by decide +kernel⟩
theorem ckX9_ask : ckV yX9_ask cX9_ask 11 (some .int) 1 := ⟨(gw_in m_1334 rfl), (gw_in m_71 rfl), ⟨(gw_in m_1332 rfl), (gw_in m_1333 rfl)⟩, by decide +kernel, by decide +kernel, by decide +kernel⟩
/-- the best match of the nuts of a player -/
def ftI (r : Nat → Int32) (q : Nat) (z : Int32 × Int32) : Nat → Int32 × Int32
  | 0 => z
  | n + 1 => if yCan r (nI q) (nI n) = true then (if mLeft (btF true (nI q) (nI n) 60 0 r).2 (nI q) (nI n) = nI q then (if (btF true (nI q) (nI n) 60 0 r).2 (39 + cl (nI q)) ≤ (ftI r q z n).2 then ftI r q z n else (10 * nI q + nI n, (btF true (nI q) (nI n) 60 0 r).2 (39 + cl (nI q)))) else ftI r q z n) else ftI r q z n
def ftO (r : Nat → Int32) (p : Int32) : Nat → Int32 × Int32
  | 0 => (-1, -1)
  | q + 1 => if r (9 + q) = p then ftI r q (ftO r p q) (cl (r 2)) else ftO r p q
/-- how many of a set answer as k does; the most of these -/
def cnA (f : Nat → Int32) (s : Int32) (k : Nat) : Nat → Int32
  | 0 => 0
  | n + 1 => cnA f s k n + (if hasB s (nI n) = true ∧ f k = f n then 1 else 0)
def mxA (f : Nat → Int32) (s : Int32) : Nat → Int32
  | 0 => 0
  | k + 1 => if (if hasB s (nI k) = true then cnA f s k 6 else 0) ≤ mxA f s k then mxA f s k else (if hasB s (nI k) = true then cnA f s k 6 else 0)
def akP (r : Nat → Int32) (p s : Int32) : Nat → Int32 × Int32
  | 0 => (-1, 7)
  | m + 1 => if m % 10 = 0 then akP r p s m else if (akP r p s m).2 ≤ mxA (fun a => frc (nI a) (r (6 + cl p)) (nI (m % 10)) (nI (m / 10))) s 6 then akP r p s m else (nI m, mxA (fun a => frc (nI a) (r (6 + cl p)) (nI (m % 10)) (nI (m / 10))) s 6)
theorem akP_0 {r : Nat → Int32} {p s : Int32} {m : Nat} (h : m % 10 = 0) : akP r p s (m + 1) = akP r p s m := if_pos h
theorem akP_s {r : Nat → Int32} {p s : Int32} {m : Nat} (h : ¬ m % 10 = 0) : akP r p s (m + 1) = if (akP r p s m).2 ≤ mxA (fun a => frc (nI a) (r (6 + cl p)) (nI (m % 10)) (nI (m / 10))) s 6 then akP r p s m else (nI m, mxA (fun a => frc (nI a) (r (6 + cl p)) (nI (m % 10)) (nI (m / 10))) s 6) := if_neg h
set_option maxHeartbeats 4000000 in
set_option maxRecDepth 100000 in
theorem kX9_fit (l : Launch) (g : gG) (o : Nat → Nat) (ab be : Int64) (lm ra ta : Nat) (ti fa : Int32) (um ua : Nat) (hh : Int64) (rf : Nat → Int32) (r tr : Nat → Int32) (p w : Int32) (hw : Wf r) : Met l yX9_fit (.code yX9_fit cX9_fit 8 (some .int) :: gw) (rmN 4) (va_Pc [.ref (o 0), .int (p), .int (w)] (rwPre g (mO g o ab be lm ra ta ti fa um ua hh ++ (aW g (o 1) 3 rf ++ (aW g (o 2) 45 r ++ (aW g (o 3) 45 tr ++ [])))))) (rxQi g (mO g o ab be lm ra ta ti fa um ua hh ++ (aW g (o 1) 3 rf ++ (aW g (o 2) 45 r ++ (aW g (o 3) 45 tr ++ [])))) (fun u9 : (Nat → Int32) => mO g o ab be lm ra ta ti fa um ua hh ++ (aW g (o 1) 3 (if (yPl r p && wth w 0 1) = true then rf else upd rf 0 (rf 0 + 1)) ++ (aW g (o 2) 45 r ++ (aW g (o 3) 45 u9 ++ [])))) (if (yPl r p && wth w 0 1) = true then (if w = 0 then (ftO r p (cl (r 2))).1 else (ftO r p (cl (r 2))).2) else -2)) 0 0 (dm (mO g o ab be lm ra ta ti fa um ua hh ++ (aW g (o 1) 3 rf ++ (aW g (o 2) 45 r ++ (aW g (o 3) 45 tr ++ []))))) := by
  refine met_start (by decide) (Nat.le_of_ble_eq_true rfl) ?_
  intro pp ee ss mm bl mt cd hC hpre ls hl
  obtain ⟨⟨hx, hb, hml, hown, hts⟩, hr, hlk, hnm⟩ := id hC
  have hl : lv_has ls 8 [(0, .ref (o 0)), (1, .int (p)), (2, .int (w))] := hl
  obtain ⟨hP, hK, hD⟩ := hpre
  have hS : va_S (dm (mO g o ab be lm ra ta ti fa um ua hh ++ (aW g (o 1) 3 rf ++ (aW g (o 2) 45 r ++ (aW g (o 3) 45 tr ++ []))))) ss.heap ss.heap [] := va_S.rf
  have hD := vD_self hD
  refine lv_iload_n hx hb dX9_fit_0 rfl (lv_at hl 1 rfl) ?_
  refine lv_iconst (v := 0) hx hb dX9_fit_1 rfl ?_
  refine lv_aload_n hx hb dX9_fit_2 rfl (lv_at hl 0 rfl) ?_
  refine kget hC.1 hK (kP_app.mp hP).1 0 rfl rfl in_9 3 (by decide) (gw_in m_963 rfl) rfl dX9_fit_3 ?_
  refine lv_iconst (v := 1) hx hb dX9_fit_6 rfl ?_
  refine kald (v := r 1) hC.1 hK (kP_app.mp (kP_app.mp (kP_app.mp hP).2).2).1 0 rfl (show vp_in (nI 1) 45 from vp_in_nI (by omega) (by omega)) (congrArg r (show cl 1 = 1 from by decide)) dX9_fit_7 ?_
  refine lv_iconst (v := 1) hx hb dX9_fit_8 rfl ?_
  refine lv_isub hx hb dX9_fit_9 ?_
  refine ro_i (run_S (As := [.int (p), .int (0), .int ((r 1) - 1)]) (rest := []) hC.1 ckX9_in (kX9_in l p 0 ((r 1) - 1)) (gw_in m_1038 rfl) (fb_nil _) (fun _ _ _ => trivial) ⟨rfl, rfl, Nat.le_of_ble_eq_true rfl, Nat.le_of_ble_eq_true rfl⟩ rfl hl.1 rfl (Nat.le_of_ble_eq_true rfl) dX9_fit_10 ⟨Nat.le_of_ble_eq_true rfl, Nat.le_of_ble_eq_true rfl⟩) ?_
  refine top_i (x := b2i (wth p 0 ((r 1) - 1))) (y := b2i (yPl r p)) (by rw [pl_w hw]) ?_
  refine lv_if_eq (tgt := 25) hx hb dX9_fit_13 (by decide) (fun c1 => ?_) (fun c1 => ?_)
  · skip
    have c1 := b2i_0 c1
    refine lv_aload_n hx hb dX9_fit_25 rfl (lv_at hl 0 rfl) ?_
    refine lv_bipush (v := -2) hx hb dX9_fit_26 rfl ?_
    refine rw_i (run_V (As := [.int (-2)]) (rest := []) hC.1 ckX9_bad (kX9_bad l g o ab be lm ra ta ti fa um ua hh rf (-2)) (gw_in m_1041 rfl) (fb_rw _ _ _) (va_recv hK.1 (kP_app.mp hP).1 (q0 := 0) rfl rfl) (fun U hU hW => ⟨by rw [hU]; exact (kP_app.mpr ⟨(kP_app.mp hP).1, (kP_app.mpr ⟨(kP_app.mp (kP_app.mp hP).2).1, kP_nil⟩)⟩), kK_warm hW hK, vD_sub (sbA _ (sbA _ (sb0 _))) hD⟩) ⟨rfl, rfl, Nat.le_of_ble_eq_true rfl, Nat.le_of_ble_eq_true rfl⟩ rfl hl.1 rfl (Nat.le_of_ble_eq_true rfl) dX9_fit_28 ⟨Nat.le_of_ble_eq_true rfl, Nat.le_of_ble_eq_true rfl⟩) (adr_app rfl (adr_app aW_adr rfl)) (asc2 _ _ _) (ww' := mO g o ab be lm ra ta ti fa um ua hh ++ (aW g (o 1) 3 (upd rf 0 (rf 0 + 1)) ++ (aW g (o 2) 45 r ++ (aW g (o 3) 45 tr ++ [])))) (asc2 _ _ _) hP hD hS (fun H locs hP hD hS => ?_)
    exact ret_rxi (S := (Nat → Int32)) tr hx hb hr hlk (by simp only [c1, if_true, if_false, eq_self, Bool.false_eq_true, Bool.and_true, Bool.true_and, Bool.and_false, Bool.false_and]) (kP_eq (by simp only [c1, if_true, if_false, eq_self, Bool.false_eq_true, Bool.and_true, Bool.true_and, Bool.and_false, Bool.false_and]) hP) hS dX9_fit_31
  · skip
    have c1 := b2i_1 c1
    refine lv_iload_n hx hb dX9_fit_16 rfl (lv_at hl 2 rfl) ?_
    refine lv_iconst (v := 0) hx hb dX9_fit_17 rfl ?_
    refine lv_iconst (v := 1) hx hb dX9_fit_18 rfl ?_
    refine ro_i (run_S (As := [.int (w), .int (0), .int (1)]) (rest := []) hC.1 ckX9_in (kX9_in l w 0 1) (gw_in m_1038 rfl) (fb_nil _) (fun _ _ _ => trivial) ⟨rfl, rfl, Nat.le_of_ble_eq_true rfl, Nat.le_of_ble_eq_true rfl⟩ rfl hl.1 rfl (Nat.le_of_ble_eq_true rfl) dX9_fit_19 ⟨Nat.le_of_ble_eq_true rfl, Nat.le_of_ble_eq_true rfl⟩) ?_
    refine lv_if_ne (tgt := 32) hx hb dX9_fit_22 (by decide) (fun c2 => ?_) (fun c2 => ?_)
    · skip
      have c2 := b2i_1 c2
      refine lv_iconst (v := -1) hx hb dX9_fit_32 rfl ?_
      refine lv_istore_n (lv' := [(3, .int (-1)), (0, .ref (o 0)), (1, .int (p)), (2, .int (w))]) hx hb dX9_fit_33 rfl hl (by decide) rfl (fun ls hl => ?_)
      refine lv_iconst (v := -1) hx hb dX9_fit_34 rfl ?_
      refine lv_istore (lv' := [(4, .int (-1)), (3, .int (-1)), (0, .ref (o 0)), (1, .int (p)), (2, .int (w))]) hx hb dX9_fit_35 hl (by decide) rfl (fun ls hl => ?_)
      refine lv_iconst (v := 0) hx hb dX9_fit_37 rfl ?_
      refine lv_istore (lv' := [(5, .int (0)), (4, .int (-1)), (3, .int (-1)), (0, .ref (o 0)), (1, .int (p)), (2, .int (w))]) hx hb dX9_fit_38 hl (by decide) rfl (fun ls hl => ?_)
      have cut40 : ∀ kk : Nat, ∀ (q : Nat) (tx9 : Nat → Int32), 7 - q < kk → (hq : (q : Int) ≤ (r 2).toInt) → ∀ (H : Heap) (locs : List Loc), kP g (mO g o ab be lm ra ta ti fa um ua hh ++ (aW g (o 1) 3 rf ++ (aW g (o 2) 45 r ++ (aW g (o 3) 45 tx9 ++ [])))) H → va_D (dm (mO g o ab be lm ra ta ti fa um ua hh ++ (aW g (o 1) 3 rf ++ (aW g (o 2) 45 r ++ (aW g (o 3) 45 tr ++ []))))) (mO g o ab be lm ra ta ti fa um ua hh ++ (aW g (o 1) 3 rf ++ (aW g (o 2) 45 r ++ (aW g (o 3) 45 tx9 ++ [])))) → va_S (dm (mO g o ab be lm ra ta ti fa um ua hh ++ (aW g (o 1) 3 rf ++ (aW g (o 2) 45 r ++ (aW g (o 3) 45 tr ++ []))))) ss.heap H locs → ∀ (ls : Array Slot), lv_has ls 8 [(0, .ref (o 0)), (1, .int (p)), (2, .int (w)), (3, .int ((ftO r p q).1)), (4, .int ((ftO r p q).2)), (5, .int (nI q))] → W pp l ee (rmN 4) ss mm ([.ref (o 0), .int (p), .int (w)] : List Value).toArray bl mt cd H locs 0 0 (MQ bl (rxQi g (mO g o ab be lm ra ta ti fa um ua hh ++ (aW g (o 1) 3 rf ++ (aW g (o 2) 45 r ++ (aW g (o 3) 45 tr ++ [])))) (fun u9 : (Nat → Int32) => mO g o ab be lm ra ta ti fa um ua hh ++ (aW g (o 1) 3 (if (yPl r p && wth w 0 1) = true then rf else upd rf 0 (rf 0 + 1)) ++ (aW g (o 2) 45 r ++ (aW g (o 3) 45 u9 ++ [])))) (if (yPl r p && wth w 0 1) = true then (if w = 0 then (ftO r p (cl (r 2))).1 else (ftO r p (cl (r 2))).2) else -2)) ([.ref (o 0), .int (p), .int (w)] : List Value).toArray ss 0 0 (dm (mO g o ab be lm ra ta ti fa um ua hh ++ (aW g (o 1) 3 rf ++ (aW g (o 2) 45 r ++ (aW g (o 3) 45 tr ++ [])))))) (F0 mm 40 ls []) := by
        intro kk
        induction kk with
        | zero => intro q tx9 hmu; exact absurd hmu (Nat.not_lt_zero _)
        | succ kk ih40 =>
          intro q tx9 hmu hq H locs hP hD hS ls hl
          refine lv_iload hx hb dX9_fit_40 (lv_at hl 5 rfl) ?_
          refine lv_aload_n hx hb dX9_fit_42 rfl (lv_at hl 0 rfl) ?_
          refine kget hC.1 hK (kP_app.mp hP).1 0 rfl rfl in_9 3 (by decide) (gw_in m_963 rfl) rfl dX9_fit_43 ?_
          refine lv_iconst (v := 2) hx hb dX9_fit_46 rfl ?_
          refine kald (v := r 2) hC.1 hK (kP_app.mp (kP_app.mp (kP_app.mp hP).2).2).1 0 rfl (show vp_in (nI 2) 45 from vp_in_nI (by omega) (by omega)) (congrArg r (show cl 2 = 2 from by decide)) dX9_fit_47 ?_
          refine lv_icmp_ge (tgt := 207) hx hb dX9_fit_48 (by decide) (fun c3 => ?_) (fun c3 => ?_)
          · skip
            have c3' := Int32.not_lt.mpr c3
            have hgq := lp_ge (by have := hw.n6; omega) c3
            have hendq : cl (r 2) = q := by have := cl_ti (i := r 2) hw.2.2.1.1; omega
            have hl : lv_has ls 8 [(0, .ref (o 0)), (1, .int (p)), (2, .int (w)), (3, .int ((ftO r p (cl (r 2))).1)), (4, .int ((ftO r p (cl (r 2))).2)), (5, .int (nI q))] := by rw [hendq]; exact hl
            refine lv_iload_n hx hb dX9_fit_207 rfl (lv_at hl 2 rfl) ?_
            refine lv_if_ne (tgt := 215) hx hb dX9_fit_208 (by decide) (fun c4 => ?_) (fun c4 => ?_)
            · skip
              refine lv_iload hx hb dX9_fit_215 (lv_at hl 4 rfl) ?_
              exact ret_rxi (S := (Nat → Int32)) tx9 hx hb hr hlk (by rw [if_pos (by rw [c1, c2]; rfl), if_neg c4]) (kP_eq (by rw [if_pos (by rw [c1, c2]; rfl)]) hP) hS dX9_fit_217
            · skip
              refine lv_iload_n hx hb dX9_fit_211 rfl (lv_at hl 3 rfl) ?_
              refine lv_goto (tgt := 217) hx hb dX9_fit_212 (by decide) ?_
              exact ret_rxi (S := (Nat → Int32)) tx9 hx hb hr hlk (by rw [if_pos (by rw [c1, c2]; rfl), if_pos c4]) (kP_eq (by rw [if_pos (by rw [c1, c2]; rfl)]) hP) hS dX9_fit_217
          · skip
            have c3' := Int32.not_le.mp c3
            have hlq := lp_lt (by have := hw.n6; omega) c3
            have hnq := nut_nI hlq
            refine lv_iconst (v := 0) hx hb dX9_fit_51 rfl ?_
            refine lv_istore (lv' := [(6, .int (0)), (0, .ref (o 0)), (1, .int (p)), (2, .int (w)), (3, .int ((ftO r p q).1)), (4, .int ((ftO r p q).2)), (5, .int (nI q))]) hx hb dX9_fit_52 hl (by decide) rfl (fun ls hl => ?_)
            have cut54 : ∀ kk : Nat, ∀ (n : Nat) (tx9 : Nat → Int32), 7 - n < kk → (hn : (n : Int) ≤ (r 2).toInt) → (hz : n = 0 ∨ r (9 + q) = p) → ∀ (H : Heap) (locs : List Loc), kP g (mO g o ab be lm ra ta ti fa um ua hh ++ (aW g (o 1) 3 rf ++ (aW g (o 2) 45 r ++ (aW g (o 3) 45 tx9 ++ [])))) H → va_D (dm (mO g o ab be lm ra ta ti fa um ua hh ++ (aW g (o 1) 3 rf ++ (aW g (o 2) 45 r ++ (aW g (o 3) 45 tr ++ []))))) (mO g o ab be lm ra ta ti fa um ua hh ++ (aW g (o 1) 3 rf ++ (aW g (o 2) 45 r ++ (aW g (o 3) 45 tx9 ++ [])))) → va_S (dm (mO g o ab be lm ra ta ti fa um ua hh ++ (aW g (o 1) 3 rf ++ (aW g (o 2) 45 r ++ (aW g (o 3) 45 tr ++ []))))) ss.heap H locs → ∀ (ls : Array Slot), lv_has ls 8 [(0, .ref (o 0)), (1, .int (p)), (2, .int (w)), (3, .int ((ftI r q (ftO r p q) n).1)), (4, .int ((ftI r q (ftO r p q) n).2)), (5, .int (nI q)), (6, .int (nI n))] → W pp l ee (rmN 4) ss mm ([.ref (o 0), .int (p), .int (w)] : List Value).toArray bl mt cd H locs 0 0 (MQ bl (rxQi g (mO g o ab be lm ra ta ti fa um ua hh ++ (aW g (o 1) 3 rf ++ (aW g (o 2) 45 r ++ (aW g (o 3) 45 tr ++ [])))) (fun u9 : (Nat → Int32) => mO g o ab be lm ra ta ti fa um ua hh ++ (aW g (o 1) 3 (if (yPl r p && wth w 0 1) = true then rf else upd rf 0 (rf 0 + 1)) ++ (aW g (o 2) 45 r ++ (aW g (o 3) 45 u9 ++ [])))) (if (yPl r p && wth w 0 1) = true then (if w = 0 then (ftO r p (cl (r 2))).1 else (ftO r p (cl (r 2))).2) else -2)) ([.ref (o 0), .int (p), .int (w)] : List Value).toArray ss 0 0 (dm (mO g o ab be lm ra ta ti fa um ua hh ++ (aW g (o 1) 3 rf ++ (aW g (o 2) 45 r ++ (aW g (o 3) 45 tr ++ [])))))) (F0 mm 54 ls []) := by
              intro kk
              induction kk with
              | zero => intro n tx9 hmu; exact absurd hmu (Nat.not_lt_zero _)
              | succ kk ih54 =>
                intro n tx9 hmu hn hz H locs hP hD hS ls hl
                refine lv_iload hx hb dX9_fit_54 (lv_at hl 6 rfl) ?_
                refine lv_aload_n hx hb dX9_fit_56 rfl (lv_at hl 0 rfl) ?_
                refine kget hC.1 hK (kP_app.mp hP).1 0 rfl rfl in_9 3 (by decide) (gw_in m_963 rfl) rfl dX9_fit_57 ?_
                refine lv_iconst (v := 2) hx hb dX9_fit_60 rfl ?_
                refine kald (v := r 2) hC.1 hK (kP_app.mp (kP_app.mp (kP_app.mp hP).2).2).1 0 rfl (show vp_in (nI 2) 45 from vp_in_nI (by omega) (by omega)) (congrArg r (show cl 2 = 2 from by decide)) dX9_fit_61 ?_
                refine lv_icmp_ge (tgt := 201) hx hb dX9_fit_62 (by decide) (fun c5 => ?_) (fun c5 => ?_)
                · skip
                  have c5' := Int32.not_lt.mpr c5
                  have hge := lp_ge (by have := hw.n6; omega) c5
                  have hend : cl (r 2) = n := by have := cl_ti (i := r 2) hw.2.2.1.1; omega
                  refine lv_iinc (v := nI (q + 1)) (lv' := [(5, .int (nI (q + 1))), (0, .ref (o 0)), (1, .int (p)), (2, .int (w)), (3, .int ((ftI r q (ftO r p q) n).1)), (4, .int ((ftI r q (ftO r p q) n).2)), (6, .int (nI n))]) hx hb dX9_fit_201 hl (k := 5) rfl (inc_nI q) (by decide) rfl (fun ls hl => ?_)
                  refine lv_goto (tgt := 40) hx hb dX9_fit_204 (by decide) ?_
                  have e9 : ftO r p (q + 1) = ftI r q (ftO r p q) n := by first | (rw [← hend]; exact if_pos (hz.resolve_left (fun e => by omega))) | (have h0 := hz.resolve_right hend; subst h0; exact if_neg hend)
                  have hl : lv_has ls 8 [(5, .int (nI (q + 1))), (0, .ref (o 0)), (1, .int (p)), (2, .int (w)), (3, .int ((ftO r p (q + 1)).1)), (4, .int ((ftO r p (q + 1)).2)), (6, .int (nI n))] := by rw [e9]; exact hl
                  exact ih40 (q + 1) tx9 (by have := hw.n6; omega) (by omega) _ _ hP hD hS _ (lv_sub hl [1, 2, 3, 4, 5, 0] rfl)
                · skip
                  have c5' := Int32.not_le.mp c5
                  have hlt := lp_lt (by have := hw.n6; omega) c5
                  have hni := nut_nI hlt
                  refine lv_aload_n hx hb dX9_fit_65 rfl (lv_at hl 0 rfl) ?_
                  refine kget hC.1 hK (kP_app.mp hP).1 0 rfl rfl in_9 3 (by decide) (gw_in m_963 rfl) rfl dX9_fit_66 ?_
                  refine lv_bipush (v := 9) hx hb dX9_fit_69 rfl ?_
                  refine lv_iload hx hb dX9_fit_71 (lv_at hl 5 rfl) ?_
                  refine lv_iadd hx hb dX9_fit_73 ?_
                  refine kald (v := r (9 + q)) hC.1 hK (kP_app.mp (kP_app.mp (kP_app.mp hP).2).2).1 0 rfl (ix_in (K := 9) (yNut_in hnq hw.n6) (by omega) (by omega)) ((congrArg r (show cl (9 + nI q) = 9 + cl (nI q) from ix_cl (K := 9) (yNut_in hnq hw.n6) (by omega))).trans (by rw [cl_nI (by have := hw.n6; omega)])) dX9_fit_74 ?_
                  refine lv_iload_n hx hb dX9_fit_75 rfl (lv_at hl 1 rfl) ?_
                  refine lv_icmp_ne (tgt := 201) hx hb dX9_fit_76 (by decide) (fun c6 => ?_) (fun c6 => ?_)
                  · skip
                    refine lv_iinc (v := nI (q + 1)) (lv' := [(5, .int (nI (q + 1))), (0, .ref (o 0)), (1, .int (p)), (2, .int (w)), (3, .int ((ftI r q (ftO r p q) n).1)), (4, .int ((ftI r q (ftO r p q) n).2)), (6, .int (nI n))]) hx hb dX9_fit_201 hl (k := 5) rfl (inc_nI q) (by decide) rfl (fun ls hl => ?_)
                    refine lv_goto (tgt := 40) hx hb dX9_fit_204 (by decide) ?_
                    have e9 : ftO r p (q + 1) = ftI r q (ftO r p q) n := by first | (rw [← hend]; exact if_pos (hz.resolve_left (fun e => by omega))) | (have h0 := hz.resolve_right c6; subst h0; exact if_neg c6)
                    have hl : lv_has ls 8 [(5, .int (nI (q + 1))), (0, .ref (o 0)), (1, .int (p)), (2, .int (w)), (3, .int ((ftO r p (q + 1)).1)), (4, .int ((ftO r p (q + 1)).2)), (6, .int (nI n))] := by rw [e9]; exact hl
                    exact ih40 (q + 1) tx9 (by have := hw.n6; omega) (by omega) _ _ hP hD hS _ (lv_sub hl [1, 2, 3, 4, 5, 0] rfl)
                  · skip
                    refine lv_aload_n hx hb dX9_fit_79 rfl (lv_at hl 0 rfl) ?_
                    refine kget hC.1 hK (kP_app.mp hP).1 0 rfl rfl in_9 3 (by decide) (gw_in m_963 rfl) rfl dX9_fit_80 ?_
                    refine lv_iload hx hb dX9_fit_83 (lv_at hl 5 rfl) ?_
                    refine lv_iload hx hb dX9_fit_85 (lv_at hl 6 rfl) ?_
                    refine ro_i (run_S (As := [.ref (o 2), .int (nI q), .int (nI n)]) (rest := []) hC.1 ckX9_canStrike (kX9_canStrike l g (o 2) r (nI q) (nI n) hw) (gw_in m_1136 rfl) (fb_ro _ _ _) (fun U hU hW => ⟨by rw [hU]; exact (kP_app.mp (kP_app.mp (kP_app.mp hP).2).2).1, kK_warm hW hK⟩) ⟨rfl, rfl, Nat.le_of_ble_eq_true rfl, Nat.le_of_ble_eq_true rfl⟩ rfl hl.1 rfl (Nat.le_of_ble_eq_true rfl) dX9_fit_87 ⟨Nat.le_of_ble_eq_true rfl, Nat.le_of_ble_eq_true rfl⟩) ?_
                    refine lv_if_eq (tgt := 195) hx hb dX9_fit_90 (by decide) (fun c7 => ?_) (fun c7 => ?_)
                    · skip
                      have c7 := b2i_0 c7
                      refine lv_iinc (v := nI (n + 1)) (lv' := [(6, .int (nI (n + 1))), (0, .ref (o 0)), (1, .int (p)), (2, .int (w)), (3, .int ((ftI r q (ftO r p q) n).1)), (4, .int ((ftI r q (ftO r p q) n).2)), (5, .int (nI q))]) hx hb dX9_fit_195 hl (k := 6) rfl (inc_nI n) (by decide) rfl (fun ls hl => ?_)
                      refine lv_goto (tgt := 54) hx hb dX9_fit_198 (by decide) ?_
                      have e9 : ftI r q (ftO r p q) (n + 1) = ftI r q (ftO r p q) n := if_neg (by rw [c7]; decide)
                      have hl : lv_has ls 8 [(6, .int (nI (n + 1))), (0, .ref (o 0)), (1, .int (p)), (2, .int (w)), (3, .int ((ftI r q (ftO r p q) (n + 1)).1)), (4, .int ((ftI r q (ftO r p q) (n + 1)).2)), (5, .int (nI q))] := by rw [e9]; exact hl
                      exact ih54 (n + 1) tx9 (by have := hw.n6; omega) (by omega) (Or.inr c6) _ _ hP hD hS _ (lv_sub hl [1, 2, 3, 4, 5, 6, 0] rfl)
                    · skip
                      have c7 := b2i_1 c7
                      refine lv_aload_n hx hb dX9_fit_93 rfl (lv_at hl 0 rfl) ?_
                      refine kget hC.1 hK (kP_app.mp hP).1 0 rfl rfl in_9 3 (by decide) (gw_in m_963 rfl) rfl dX9_fit_94 ?_
                      refine lv_aload_n hx hb dX9_fit_97 rfl (lv_at hl 0 rfl) ?_
                      refine kget hC.1 hK (kP_app.mp hP).1 0 rfl rfl in_9 4 (by decide) (gw_in m_964 rfl) rfl dX9_fit_98 ?_
                      have hP : kP g (aW g (o 2) 45 r ++ (aW g (o 3) 45 tx9 ++ (mO g o ab be lm ra ta ti fa um ua hh ++ (aW g (o 1) 3 rf ++ [])))) _ := kP_perm ((((pmA _ (pm_swap _ _ _)).trans (pm_swap _ _ _)).trans (pmA _ (pmA _ (pm_swap _ _ _)))).trans (pmA _ (pm_swap _ _ _))) hP
                      have hD : va_D _ (aW g (o 2) 45 r ++ (aW g (o 3) 45 tx9 ++ (mO g o ab be lm ra ta ti fa um ua hh ++ (aW g (o 1) 3 rf ++ [])))) := vD_perm ((((pmA _ (pm_swap _ _ _)).trans (pm_swap _ _ _)).trans (pmA _ (pmA _ (pm_swap _ _ _)))).trans (pmA _ (pm_swap _ _ _))) hD
                      refine rw_v (run_S (As := [.ref (o 2), .ref (o 3)]) (rest := []) hC.1 ckX9_copies (kX9_copies l g (o 2) (o 3) r tx9) (gw_in m_1175 rfl) (fb_rw _ _ _) (fun U hU hW => ⟨by rw [hU]; exact (kP_app.mpr ⟨(kP_app.mp hP).1, (kP_app.mpr ⟨(kP_app.mp (kP_app.mp hP).2).1, kP_nil⟩)⟩), kK_warm hW hK, vD_sub (sbA _ (sbA _ (sb0 _))) hD⟩) ⟨rfl, rfl, Nat.le_of_ble_eq_true rfl, Nat.le_of_ble_eq_true rfl⟩ rfl hl.1 rfl (Nat.le_of_ble_eq_true rfl) dX9_fit_101 ⟨Nat.le_of_ble_eq_true rfl, Nat.le_of_ble_eq_true rfl⟩) (adr_app rfl (adr_app aW_adr rfl)) (asc2 _ _ _) (ww' := aW g (o 2) 45 r ++ (aW g (o 3) 45 r ++ (mO g o ab be lm ra ta ti fa um ua hh ++ (aW g (o 1) 3 rf ++ [])))) (asc2 _ _ _) hP hD hS (fun H locs hP hD hS => ?_)
                      refine lv_aload_n hx hb dX9_fit_104 rfl (lv_at hl 0 rfl) ?_
                      refine kget hC.1 hK (kP_app.mp (kP_app.mp (kP_app.mp hP).2).2).1 0 rfl rfl in_9 4 (by decide) (gw_in m_964 rfl) rfl dX9_fit_105 ?_
                      refine lv_iload hx hb dX9_fit_108 (lv_at hl 5 rfl) ?_
                      refine lv_iload hx hb dX9_fit_110 (lv_at hl 6 rfl) ?_
                      refine lv_iconst (v := 1) hx hb dX9_fit_112 rfl ?_
                      have hP : kP g (aW g (o 3) 45 r ++ (aW g (o 2) 45 r ++ (mO g o ab be lm ra ta ti fa um ua hh ++ (aW g (o 1) 3 rf ++ [])))) _ := kP_perm (pm_swap _ _ _) hP
                      have hD : va_D _ (aW g (o 3) 45 r ++ (aW g (o 2) 45 r ++ (mO g o ab be lm ra ta ti fa um ua hh ++ (aW g (o 1) 3 rf ++ [])))) := vD_perm (pm_swap _ _ _) hD
                      refine rw_i (run_S (As := [.ref (o 3), .int (nI q), .int (nI n), .int (1)]) (rest := []) hC.1 ckX9_bouts (kX9_bouts l g (o 3) r (nI q) (nI n) true hw (yNut_in hnq hw.n6) (yNut_in hni hw.n6)) (gw_in m_1240 rfl) (fb_rw _ _ _) (fun U hU hW => ⟨by rw [hU]; exact (kP_app.mpr ⟨(kP_app.mp hP).1, kP_nil⟩), kK_warm hW hK, vD_sub (sbA _ (sb0 _)) hD⟩) ⟨rfl, rfl, Nat.le_of_ble_eq_true rfl, Nat.le_of_ble_eq_true rfl⟩ rfl hl.1 rfl (Nat.le_of_ble_eq_true rfl) dX9_fit_113 ⟨Nat.le_of_ble_eq_true rfl, Nat.le_of_ble_eq_true rfl⟩) (adr_app aW_adr rfl) (asc1 _ _) (ww' := aW g (o 3) 45 (btF true (nI q) (nI n) 60 0 r).2 ++ (aW g (o 2) 45 r ++ (mO g o ab be lm ra ta ti fa um ua hh ++ (aW g (o 1) 3 rf ++ [])))) (asc1 _ _) hP hD hS (fun H locs hP hD hS => ?_)
                      refine lv_pop hx hb dX9_fit_116 rfl ?_
                      refine lv_aload_n hx hb dX9_fit_117 rfl (lv_at hl 0 rfl) ?_
                      refine kget hC.1 hK (kP_app.mp (kP_app.mp (kP_app.mp hP).2).2).1 0 rfl rfl in_9 4 (by decide) (gw_in m_964 rfl) rfl dX9_fit_118 ?_
                      refine lv_iload hx hb dX9_fit_121 (lv_at hl 5 rfl) ?_
                      refine lv_iload hx hb dX9_fit_123 (lv_at hl 6 rfl) ?_
                      refine ro_i (run_S (As := [.ref (o 3), .int (nI q), .int (nI n)]) (rest := []) hC.1 ckX9_leftOf (kX9_leftOf l g (o 3) (btF true (nI q) (nI n) 60 0 r).2 (nI q) (nI n) (yNut_in hnq hw.n6) (yNut_in hni hw.n6)) (gw_in m_1243 rfl) (fb_ro _ _ _) (fun U hU hW => ⟨by rw [hU]; exact (kP_app.mp hP).1, kK_warm hW hK⟩) ⟨rfl, rfl, Nat.le_of_ble_eq_true rfl, Nat.le_of_ble_eq_true rfl⟩ rfl hl.1 rfl (Nat.le_of_ble_eq_true rfl) dX9_fit_125 ⟨Nat.le_of_ble_eq_true rfl, Nat.le_of_ble_eq_true rfl⟩) ?_
                      refine lv_iload hx hb dX9_fit_128 (lv_at hl 5 rfl) ?_
                      refine lv_icmp_ne (tgt := 152) hx hb dX9_fit_130 (by decide) (fun c8 => ?_) (fun c8 => ?_)
                      · skip
                        refine lv_iconst (v := 0) hx hb dX9_fit_152 rfl ?_
                        refine lv_istore (lv' := [(7, .int (0)), (0, .ref (o 0)), (1, .int (p)), (2, .int (w)), (3, .int ((ftI r q (ftO r p q) n).1)), (4, .int ((ftI r q (ftO r p q) n).2)), (5, .int (nI q)), (6, .int (nI n))]) hx hb dX9_fit_153 hl (by decide) rfl (fun ls hl => ?_)
                        refine lv_iload hx hb dX9_fit_155 (lv_at hl 0 rfl) ?_
                        refine lv_if_eq (tgt := 171) hx hb dX9_fit_157 (by decide) (fun c9 => ?_) (fun c9 => ?_)
                        · skip
                          refine lv_iload_n hx hb dX9_fit_171 rfl (lv_at hl 4 rfl) ?_
                          refine lv_istore_n (lv' := [(3, .int ((ftI r q (ftO r p q) n).1)), (7, .int (0)), (0, .ref (o 0)), (1, .int (p)), (2, .int (w)), (4, .int ((ftI r q (ftO r p q) n).2)), (5, .int (nI q)), (6, .int (nI n))]) hx hb dX9_fit_172 rfl hl (by decide) rfl (fun ls hl => ?_)
                          refine lv_iload hx hb dX9_fit_173 (lv_at hl 1 rfl) ?_
                          refine lv_if_eq (tgt := 191) hx hb dX9_fit_175 (by decide) (fun c10 => ?_) (fun c10 => ?_)
                          · skip
                            refine lv_iload hx hb dX9_fit_191 (lv_at hl 5 rfl) ?_
                            refine lv_istore (lv' := [(4, .int ((ftI r q (ftO r p q) n).2)), (3, .int ((ftI r q (ftO r p q) n).1)), (7, .int (0)), (0, .ref (o 0)), (1, .int (p)), (2, .int (w)), (5, .int (nI q)), (6, .int (nI n))]) hx hb dX9_fit_193 hl (by decide) rfl (fun ls hl => ?_)
                            refine lv_iinc (v := nI (n + 1)) (lv' := [(6, .int (nI (n + 1))), (4, .int ((ftI r q (ftO r p q) n).2)), (3, .int ((ftI r q (ftO r p q) n).1)), (7, .int (0)), (0, .ref (o 0)), (1, .int (p)), (2, .int (w)), (5, .int (nI q))]) hx hb dX9_fit_195 hl (k := 7) rfl (inc_nI n) (by decide) rfl (fun ls hl => ?_)
                            refine lv_goto (tgt := 54) hx hb dX9_fit_198 (by decide) ?_
                            have e9 : ftI r q (ftO r p q) (n + 1) = ftI r q (ftO r p q) n := (if_pos c7).trans (if_neg c8)
                            have hl : lv_has ls 8 [(6, .int (nI (n + 1))), (4, .int ((ftI r q (ftO r p q) (n + 1)).2)), (3, .int ((ftI r q (ftO r p q) (n + 1)).1)), (7, .int (0)), (0, .ref (o 0)), (1, .int (p)), (2, .int (w)), (5, .int (nI q))] := by rw [e9]; exact hl
                            have hP : kP g (mO g o ab be lm ra ta ti fa um ua hh ++ (aW g (o 1) 3 rf ++ (aW g (o 2) 45 r ++ (aW g (o 3) 45 (btF true (nI q) (nI n) 60 0 r).2 ++ [])))) _ := kP_perm (((((pmA _ (pm_swap _ _ _)).trans (pm_swap _ _ _)).trans (pmA _ (pmA _ (pm_swap _ _ _)))).trans (pmA _ (pm_swap _ _ _))).trans (pmA _ (pmA _ (pm_swap _ _ _)))) hP
                            have hD : va_D _ (mO g o ab be lm ra ta ti fa um ua hh ++ (aW g (o 1) 3 rf ++ (aW g (o 2) 45 r ++ (aW g (o 3) 45 (btF true (nI q) (nI n) 60 0 r).2 ++ [])))) := vD_perm (((((pmA _ (pm_swap _ _ _)).trans (pm_swap _ _ _)).trans (pmA _ (pmA _ (pm_swap _ _ _)))).trans (pmA _ (pm_swap _ _ _))).trans (pmA _ (pmA _ (pm_swap _ _ _)))) hD
                            exact ih54 (n + 1) (btF true (nI q) (nI n) 60 0 r).2 (by have := hw.n6; omega) (by omega) (Or.inr c6) _ _ hP hD hS _ (lv_sub hl [4, 5, 6, 2, 1, 7, 0] rfl)
                          · skip
                            exact absurd c10 (by decide)
                        · skip
                          exact absurd c9 (by decide)
                      · skip
                        refine lv_aload_n hx hb dX9_fit_133 rfl (lv_at hl 0 rfl) ?_
                        refine kget hC.1 hK (kP_app.mp (kP_app.mp (kP_app.mp hP).2).2).1 0 rfl rfl in_9 4 (by decide) (gw_in m_964 rfl) rfl dX9_fit_134 ?_
                        refine lv_bipush (v := 39) hx hb dX9_fit_137 rfl ?_
                        refine lv_iload hx hb dX9_fit_139 (lv_at hl 5 rfl) ?_
                        refine lv_iadd hx hb dX9_fit_141 ?_
                        refine kald (v := (btF true (nI q) (nI n) 60 0 r).2 (39 + cl (nI q))) hC.1 hK (kP_app.mp hP).1 0 rfl (ix_in (K := 39) (yNut_in hnq hw.n6) (by omega) (by omega)) (congrArg (btF true (nI q) (nI n) 60 0 r).2 (show cl (39 + (nI q)) = 39 + cl (nI q) from ix_cl (K := 39) (yNut_in hnq hw.n6) (by omega))) dX9_fit_142 ?_
                        refine lv_iload hx hb dX9_fit_143 (lv_at hl 4 rfl) ?_
                        refine lv_icmp_le (tgt := 152) hx hb dX9_fit_145 (by decide) (fun c11 => ?_) (fun c11 => ?_)
                        · skip
                          have c11' := Int32.not_lt.mpr c11
                          refine lv_iconst (v := 0) hx hb dX9_fit_152 rfl ?_
                          refine lv_istore (lv' := [(7, .int (0)), (0, .ref (o 0)), (1, .int (p)), (2, .int (w)), (3, .int ((ftI r q (ftO r p q) n).1)), (4, .int ((ftI r q (ftO r p q) n).2)), (5, .int (nI q)), (6, .int (nI n))]) hx hb dX9_fit_153 hl (by decide) rfl (fun ls hl => ?_)
                          refine lv_iload hx hb dX9_fit_155 (lv_at hl 0 rfl) ?_
                          refine lv_if_eq (tgt := 171) hx hb dX9_fit_157 (by decide) (fun c12 => ?_) (fun c12 => ?_)
                          · skip
                            refine lv_iload_n hx hb dX9_fit_171 rfl (lv_at hl 4 rfl) ?_
                            refine lv_istore_n (lv' := [(3, .int ((ftI r q (ftO r p q) n).1)), (7, .int (0)), (0, .ref (o 0)), (1, .int (p)), (2, .int (w)), (4, .int ((ftI r q (ftO r p q) n).2)), (5, .int (nI q)), (6, .int (nI n))]) hx hb dX9_fit_172 rfl hl (by decide) rfl (fun ls hl => ?_)
                            refine lv_iload hx hb dX9_fit_173 (lv_at hl 1 rfl) ?_
                            refine lv_if_eq (tgt := 191) hx hb dX9_fit_175 (by decide) (fun c13 => ?_) (fun c13 => ?_)
                            · skip
                              refine lv_iload hx hb dX9_fit_191 (lv_at hl 5 rfl) ?_
                              refine lv_istore (lv' := [(4, .int ((ftI r q (ftO r p q) n).2)), (3, .int ((ftI r q (ftO r p q) n).1)), (7, .int (0)), (0, .ref (o 0)), (1, .int (p)), (2, .int (w)), (5, .int (nI q)), (6, .int (nI n))]) hx hb dX9_fit_193 hl (by decide) rfl (fun ls hl => ?_)
                              refine lv_iinc (v := nI (n + 1)) (lv' := [(6, .int (nI (n + 1))), (4, .int ((ftI r q (ftO r p q) n).2)), (3, .int ((ftI r q (ftO r p q) n).1)), (7, .int (0)), (0, .ref (o 0)), (1, .int (p)), (2, .int (w)), (5, .int (nI q))]) hx hb dX9_fit_195 hl (k := 7) rfl (inc_nI n) (by decide) rfl (fun ls hl => ?_)
                              refine lv_goto (tgt := 54) hx hb dX9_fit_198 (by decide) ?_
                              have e9 : ftI r q (ftO r p q) (n + 1) = ftI r q (ftO r p q) n := (if_pos c7).trans ((if_pos c8).trans (if_pos c11))
                              have hl : lv_has ls 8 [(6, .int (nI (n + 1))), (4, .int ((ftI r q (ftO r p q) (n + 1)).2)), (3, .int ((ftI r q (ftO r p q) (n + 1)).1)), (7, .int (0)), (0, .ref (o 0)), (1, .int (p)), (2, .int (w)), (5, .int (nI q))] := by rw [e9]; exact hl
                              have hP : kP g (mO g o ab be lm ra ta ti fa um ua hh ++ (aW g (o 1) 3 rf ++ (aW g (o 2) 45 r ++ (aW g (o 3) 45 (btF true (nI q) (nI n) 60 0 r).2 ++ [])))) _ := kP_perm (((((pmA _ (pm_swap _ _ _)).trans (pm_swap _ _ _)).trans (pmA _ (pmA _ (pm_swap _ _ _)))).trans (pmA _ (pm_swap _ _ _))).trans (pmA _ (pmA _ (pm_swap _ _ _)))) hP
                              have hD : va_D _ (mO g o ab be lm ra ta ti fa um ua hh ++ (aW g (o 1) 3 rf ++ (aW g (o 2) 45 r ++ (aW g (o 3) 45 (btF true (nI q) (nI n) 60 0 r).2 ++ [])))) := vD_perm (((((pmA _ (pm_swap _ _ _)).trans (pm_swap _ _ _)).trans (pmA _ (pmA _ (pm_swap _ _ _)))).trans (pmA _ (pm_swap _ _ _))).trans (pmA _ (pmA _ (pm_swap _ _ _)))) hD
                              exact ih54 (n + 1) (btF true (nI q) (nI n) 60 0 r).2 (by have := hw.n6; omega) (by omega) (Or.inr c6) _ _ hP hD hS _ (lv_sub hl [4, 5, 6, 2, 1, 7, 0] rfl)
                            · skip
                              exact absurd c13 (by decide)
                          · skip
                            exact absurd c12 (by decide)
                        · skip
                          have c11' := Int32.not_le.mp c11
                          refine lv_iconst (v := 1) hx hb dX9_fit_148 rfl ?_
                          refine lv_goto (tgt := 153) hx hb dX9_fit_149 (by decide) ?_
                          refine lv_istore (lv' := [(7, .int (1)), (0, .ref (o 0)), (1, .int (p)), (2, .int (w)), (3, .int ((ftI r q (ftO r p q) n).1)), (4, .int ((ftI r q (ftO r p q) n).2)), (5, .int (nI q)), (6, .int (nI n))]) hx hb dX9_fit_153 hl (by decide) rfl (fun ls hl => ?_)
                          refine lv_iload hx hb dX9_fit_155 (lv_at hl 0 rfl) ?_
                          refine lv_if_eq (tgt := 171) hx hb dX9_fit_157 (by decide) (fun c14 => ?_) (fun c14 => ?_)
                          · skip
                            exact absurd c14 (by decide)
                          · skip
                            refine lv_bipush (v := 10) hx hb dX9_fit_160 rfl ?_
                            refine lv_iload hx hb dX9_fit_162 (lv_at hl 6 rfl) ?_
                            refine lv_imul hx hb dX9_fit_164 ?_
                            refine lv_iload hx hb dX9_fit_165 (lv_at hl 7 rfl) ?_
                            refine lv_iadd hx hb dX9_fit_167 ?_
                            refine lv_goto (tgt := 172) hx hb dX9_fit_168 (by decide) ?_
                            refine lv_istore_n (lv' := [(3, .int ((10 * (nI q)) + (nI n))), (7, .int (1)), (0, .ref (o 0)), (1, .int (p)), (2, .int (w)), (4, .int ((ftI r q (ftO r p q) n).2)), (5, .int (nI q)), (6, .int (nI n))]) hx hb dX9_fit_172 rfl hl (by decide) rfl (fun ls hl => ?_)
                            refine lv_iload hx hb dX9_fit_173 (lv_at hl 1 rfl) ?_
                            refine lv_if_eq (tgt := 191) hx hb dX9_fit_175 (by decide) (fun c15 => ?_) (fun c15 => ?_)
                            · skip
                              exact absurd c15 (by decide)
                            · skip
                              refine lv_aload_n hx hb dX9_fit_178 rfl (lv_at hl 2 rfl) ?_
                              refine kget hC.1 hK (kP_app.mp (kP_app.mp (kP_app.mp hP).2).2).1 0 rfl rfl in_9 4 (by decide) (gw_in m_964 rfl) rfl dX9_fit_179 ?_
                              refine lv_bipush (v := 39) hx hb dX9_fit_182 rfl ?_
                              refine lv_iload hx hb dX9_fit_184 (lv_at hl 6 rfl) ?_
                              refine lv_iadd hx hb dX9_fit_186 ?_
                              refine kald (v := (btF true (nI q) (nI n) 60 0 r).2 (39 + cl (nI q))) hC.1 hK (kP_app.mp hP).1 0 rfl (ix_in (K := 39) (yNut_in hnq hw.n6) (by omega) (by omega)) (congrArg (btF true (nI q) (nI n) 60 0 r).2 (show cl (39 + (nI q)) = 39 + cl (nI q) from ix_cl (K := 39) (yNut_in hnq hw.n6) (by omega))) dX9_fit_187 ?_
                              refine lv_goto (tgt := 193) hx hb dX9_fit_188 (by decide) ?_
                              refine lv_istore (lv' := [(4, .int ((btF true (nI q) (nI n) 60 0 r).2 (39 + cl (nI q)))), (3, .int ((10 * (nI q)) + (nI n))), (7, .int (1)), (0, .ref (o 0)), (1, .int (p)), (2, .int (w)), (5, .int (nI q)), (6, .int (nI n))]) hx hb dX9_fit_193 hl (by decide) rfl (fun ls hl => ?_)
                              refine lv_iinc (v := nI (n + 1)) (lv' := [(6, .int (nI (n + 1))), (4, .int ((btF true (nI q) (nI n) 60 0 r).2 (39 + cl (nI q)))), (3, .int ((10 * (nI q)) + (nI n))), (7, .int (1)), (0, .ref (o 0)), (1, .int (p)), (2, .int (w)), (5, .int (nI q))]) hx hb dX9_fit_195 hl (k := 7) rfl (inc_nI n) (by decide) rfl (fun ls hl => ?_)
                              refine lv_goto (tgt := 54) hx hb dX9_fit_198 (by decide) ?_
                              have e9 : ftI r q (ftO r p q) (n + 1) = (10 * nI q + nI n, (btF true (nI q) (nI n) 60 0 r).2 (39 + cl (nI q))) := (if_pos c7).trans ((if_pos c8).trans (if_neg c11))
                              have hl : lv_has ls 8 [(6, .int (nI (n + 1))), (4, .int ((ftI r q (ftO r p q) (n + 1)).2)), (3, .int ((ftI r q (ftO r p q) (n + 1)).1)), (7, .int (1)), (0, .ref (o 0)), (1, .int (p)), (2, .int (w)), (5, .int (nI q))] := by rw [e9]; exact hl
                              have hP : kP g (mO g o ab be lm ra ta ti fa um ua hh ++ (aW g (o 1) 3 rf ++ (aW g (o 2) 45 r ++ (aW g (o 3) 45 (btF true (nI q) (nI n) 60 0 r).2 ++ [])))) _ := kP_perm (((((pmA _ (pm_swap _ _ _)).trans (pm_swap _ _ _)).trans (pmA _ (pmA _ (pm_swap _ _ _)))).trans (pmA _ (pm_swap _ _ _))).trans (pmA _ (pmA _ (pm_swap _ _ _)))) hP
                              have hD : va_D _ (mO g o ab be lm ra ta ti fa um ua hh ++ (aW g (o 1) 3 rf ++ (aW g (o 2) 45 r ++ (aW g (o 3) 45 (btF true (nI q) (nI n) 60 0 r).2 ++ [])))) := vD_perm (((((pmA _ (pm_swap _ _ _)).trans (pm_swap _ _ _)).trans (pmA _ (pmA _ (pm_swap _ _ _)))).trans (pmA _ (pm_swap _ _ _))).trans (pmA _ (pmA _ (pm_swap _ _ _)))) hD
                              exact ih54 (n + 1) (btF true (nI q) (nI n) 60 0 r).2 (by have := hw.n6; omega) (by omega) (Or.inr c6) _ _ hP hD hS _ (lv_sub hl [4, 5, 6, 2, 1, 7, 0] rfl)
            exact cut54 _ 0 tx9 (Nat.lt_succ_self _) (by have := hw.2.2.1.1; exact this) (Or.inl rfl) _ _ hP hD hS _ (lv_sub hl [1, 2, 3, 4, 5, 6, 0] rfl)
      exact cut40 _ 0 tr (Nat.lt_succ_self _) (by have := hw.2.2.1.1; exact this) _ _ hP hD hS _ (lv_sub hl [3, 4, 5, 2, 1, 0] rfl)
    · skip
      have c2 := b2i_0 c2
      refine lv_aload_n hx hb dX9_fit_25 rfl (lv_at hl 0 rfl) ?_
      refine lv_bipush (v := -2) hx hb dX9_fit_26 rfl ?_
      refine rw_i (run_V (As := [.int (-2)]) (rest := []) hC.1 ckX9_bad (kX9_bad l g o ab be lm ra ta ti fa um ua hh rf (-2)) (gw_in m_1041 rfl) (fb_rw _ _ _) (va_recv hK.1 (kP_app.mp hP).1 (q0 := 0) rfl rfl) (fun U hU hW => ⟨by rw [hU]; exact (kP_app.mpr ⟨(kP_app.mp hP).1, (kP_app.mpr ⟨(kP_app.mp (kP_app.mp hP).2).1, kP_nil⟩)⟩), kK_warm hW hK, vD_sub (sbA _ (sbA _ (sb0 _))) hD⟩) ⟨rfl, rfl, Nat.le_of_ble_eq_true rfl, Nat.le_of_ble_eq_true rfl⟩ rfl hl.1 rfl (Nat.le_of_ble_eq_true rfl) dX9_fit_28 ⟨Nat.le_of_ble_eq_true rfl, Nat.le_of_ble_eq_true rfl⟩) (adr_app rfl (adr_app aW_adr rfl)) (asc2 _ _ _) (ww' := mO g o ab be lm ra ta ti fa um ua hh ++ (aW g (o 1) 3 (upd rf 0 (rf 0 + 1)) ++ (aW g (o 2) 45 r ++ (aW g (o 3) 45 tr ++ [])))) (asc2 _ _ _) hP hD hS (fun H locs hP hD hS => ?_)
      exact ret_rxi (S := (Nat → Int32)) tr hx hb hr hlk (by simp only [c1, c2, if_true, if_false, eq_self, Bool.false_eq_true, Bool.and_true, Bool.true_and, Bool.and_false, Bool.false_and]) (kP_eq (by simp only [c1, c2, if_true, if_false, eq_self, Bool.false_eq_true, Bool.and_true, Bool.true_and, Bool.and_false, Bool.false_and]) hP) hS dX9_fit_31
set_option maxHeartbeats 4000000 in
set_option maxRecDepth 100000 in
theorem kX9_ask (l : Launch) (g : gG) (o : Nat → Nat) (ab be : Int64) (lm ra ta : Nat) (ti fa : Int32) (um ua : Nat) (hh : Int64) (rf : Nat → Int32) (r tl : Nat → Int32) (S : Nat) (p : Int32) (hw : Wf r) (hS0 : tl 63 = nI S) (hS6 : S ≤ 6) : Met l yX9_ask (.code yX9_ask cX9_ask 11 (some .int) :: gw) (rmN 2) (va_Pc [.ref (o 0), .int (p)] (rwPre g (mO g o ab be lm ra ta ti fa um ua hh ++ (aW g (o 1) 3 rf ++ (aW g (o 2) 45 r ++ (aW g (o 5) 94 tl ++ [])))))) (rwQi g (mO g o ab be lm ra ta ti fa um ua hh ++ (aW g (o 1) 3 rf ++ (aW g (o 2) 45 r ++ (aW g (o 5) 94 tl ++ [])))) (mO g o ab be lm ra ta ti fa um ua hh ++ (aW g (o 1) 3 (if yPl r p = true then rf else upd rf 0 (rf 0 + 1)) ++ (aW g (o 2) 45 r ++ (aW g (o 5) 94 tl ++ [])))) (if yPl r p = true then (if setB (fun k => allN (fun n => !decide (tl (64 + 5 * n) = p) || decide (frc (nI k) (tl (64 + 5 * n + 1)) (tl (64 + 5 * n + 2)) (tl (64 + 5 * n + 3)) = tl (64 + 5 * n + 4))) S) 6 = 0 then -1 else (akP r p (setB (fun k => allN (fun n => !decide (tl (64 + 5 * n) = p) || decide (frc (nI k) (tl (64 + 5 * n + 1)) (tl (64 + 5 * n + 2)) (tl (64 + 5 * n + 3)) = tl (64 + 5 * n + 4))) S) 6) (10 * 21)).1) else -2)) 0 0 (dm (mO g o ab be lm ra ta ti fa um ua hh ++ (aW g (o 1) 3 rf ++ (aW g (o 2) 45 r ++ (aW g (o 5) 94 tl ++ []))))) := by
  refine met_start (by decide) (Nat.le_of_ble_eq_true rfl) ?_
  intro pp ee ss mm bl mt cd hC hpre ls hl
  obtain ⟨⟨hx, hb, hml, hown, hts⟩, hr, hlk, hnm⟩ := id hC
  have hl : lv_has ls 11 [(0, .ref (o 0)), (1, .int (p))] := hl
  obtain ⟨hP, hK, hD⟩ := hpre
  have hS : va_S (dm (mO g o ab be lm ra ta ti fa um ua hh ++ (aW g (o 1) 3 rf ++ (aW g (o 2) 45 r ++ (aW g (o 5) 94 tl ++ []))))) ss.heap ss.heap [] := va_S.rf
  have hD := vD_self hD
  refine lv_iload_n hx hb dX9_ask_0 rfl (lv_at hl 1 rfl) ?_
  refine lv_iconst (v := 0) hx hb dX9_ask_1 rfl ?_
  refine lv_aload_n hx hb dX9_ask_2 rfl (lv_at hl 0 rfl) ?_
  refine kget hC.1 hK (kP_app.mp hP).1 0 rfl rfl in_9 3 (by decide) (gw_in m_963 rfl) rfl dX9_ask_3 ?_
  refine lv_iconst (v := 1) hx hb dX9_ask_6 rfl ?_
  refine kald (v := r 1) hC.1 hK (kP_app.mp (kP_app.mp (kP_app.mp hP).2).2).1 0 rfl (show vp_in (nI 1) 45 from vp_in_nI (by omega) (by omega)) (congrArg r (show cl 1 = 1 from by decide)) dX9_ask_7 ?_
  refine lv_iconst (v := 1) hx hb dX9_ask_8 rfl ?_
  refine lv_isub hx hb dX9_ask_9 ?_
  refine ro_i (run_S (As := [.int (p), .int (0), .int ((r 1) - 1)]) (rest := []) hC.1 ckX9_in (kX9_in l p 0 ((r 1) - 1)) (gw_in m_1038 rfl) (fb_nil _) (fun _ _ _ => trivial) ⟨rfl, rfl, Nat.le_of_ble_eq_true rfl, Nat.le_of_ble_eq_true rfl⟩ rfl hl.1 rfl (Nat.le_of_ble_eq_true rfl) dX9_ask_10 ⟨Nat.le_of_ble_eq_true rfl, Nat.le_of_ble_eq_true rfl⟩) ?_
  refine top_i (x := b2i (wth p 0 ((r 1) - 1))) (y := b2i (yPl r p)) (by rw [pl_w hw]) ?_
  refine lv_if_ne (tgt := 23) hx hb dX9_ask_13 (by decide) (fun c1 => ?_) (fun c1 => ?_)
  · skip
    have c1 := b2i_1 c1
    obtain ⟨s, hse⟩ : ∃ s, s = setB (fun k => allN (fun n => !decide (tl (64 + 5 * n) = p) || decide (frc (nI k) (tl (64 + 5 * n + 1)) (tl (64 + 5 * n + 2)) (tl (64 + 5 * n + 3)) = tl (64 + 5 * n + 4))) S) 6 := ⟨_, rfl⟩
    have hpi := yPl_in c1 hw.n3
    refine lv_aload_n hx hb dX9_ask_23 rfl (lv_at hl 0 rfl) ?_
    refine lv_iload_n hx hb dX9_ask_24 rfl (lv_at hl 1 rfl) ?_
    refine ro_i (run_V (As := [.int (p)]) (rest := []) hC.1 ckX9_playersOf (kX9_playersOf l g o ab be lm ra ta ti fa um ua hh r tl S p hw hS0 hS6) (gw_in m_1327 rfl) (fb_ro _ _ _) (va_recv hK.1 (kP_app.mp hP).1 (q0 := 0) rfl rfl) (fun U hU hW => ⟨by rw [hU]; exact (kP_app.mpr ⟨(kP_app.mp hP).1, (kP_app.mpr ⟨(kP_app.mp (kP_app.mp (kP_app.mp hP).2).2).1, (kP_app.mpr ⟨(kP_app.mp (kP_app.mp (kP_app.mp (kP_app.mp hP).2).2).2).1, (kP_mem.mpr (fun _ h => absurd h List.not_mem_nil))⟩)⟩)⟩), kK_warm hW hK⟩) ⟨rfl, rfl, Nat.le_of_ble_eq_true rfl, Nat.le_of_ble_eq_true rfl⟩ rfl hl.1 rfl (Nat.le_of_ble_eq_true rfl) dX9_ask_25 ⟨Nat.le_of_ble_eq_true rfl, Nat.le_of_ble_eq_true rfl⟩) ?_
    refine top_i (x := setB (fun k => allN (fun n => !decide (tl (64 + 5 * n) = p) || decide (frc (nI k) (tl (64 + 5 * n + 1)) (tl (64 + 5 * n + 2)) (tl (64 + 5 * n + 3)) = tl (64 + 5 * n + 4))) S) 6) (y := s) hse.symm ?_
    refine lv_istore_n (lv' := [(2, .int (s)), (0, .ref (o 0)), (1, .int (p))]) hx hb dX9_ask_28 rfl hl (by decide) rfl (fun ls hl => ?_)
    refine lv_iconst (v := -1) hx hb dX9_ask_29 rfl ?_
    refine lv_istore_n (lv' := [(3, .int (-1)), (2, .int (s)), (0, .ref (o 0)), (1, .int (p))]) hx hb dX9_ask_30 rfl hl (by decide) rfl (fun ls hl => ?_)
    refine lv_bipush (v := 7) hx hb dX9_ask_31 rfl ?_
    refine lv_istore (lv' := [(4, .int (7)), (3, .int (-1)), (2, .int (s)), (0, .ref (o 0)), (1, .int (p))]) hx hb dX9_ask_33 hl (by decide) rfl (fun ls hl => ?_)
    refine lv_iconst (v := 0) hx hb dX9_ask_35 rfl ?_
    refine lv_istore (lv' := [(5, .int (0)), (4, .int (7)), (3, .int (-1)), (2, .int (s)), (0, .ref (o 0)), (1, .int (p))]) hx hb dX9_ask_36 hl (by decide) rfl (fun ls hl => ?_)
    have cut38 : ∀ kk : Nat, ∀ (k : Nat), 22 - k < kk → (hk : k ≤ 21) → ∀ (H : Heap) (locs : List Loc), kP g (mO g o ab be lm ra ta ti fa um ua hh ++ (aW g (o 1) 3 rf ++ (aW g (o 2) 45 r ++ (aW g (o 5) 94 tl ++ [])))) H → va_D (dm (mO g o ab be lm ra ta ti fa um ua hh ++ (aW g (o 1) 3 rf ++ (aW g (o 2) 45 r ++ (aW g (o 5) 94 tl ++ []))))) (mO g o ab be lm ra ta ti fa um ua hh ++ (aW g (o 1) 3 rf ++ (aW g (o 2) 45 r ++ (aW g (o 5) 94 tl ++ [])))) → va_S (dm (mO g o ab be lm ra ta ti fa um ua hh ++ (aW g (o 1) 3 rf ++ (aW g (o 2) 45 r ++ (aW g (o 5) 94 tl ++ []))))) ss.heap H locs → ∀ (ls : Array Slot), lv_has ls 11 [(0, .ref (o 0)), (1, .int (p)), (2, .int (s)), (3, .int (if s = 0 then -1 else (akP r p s (10 * k)).1)), (4, .int (if s = 0 then 7 else (akP r p s (10 * k)).2)), (5, .int (nI k))] → W pp l ee (rmN 2) ss mm ([.ref (o 0), .int (p)] : List Value).toArray bl mt cd H locs 0 0 (MQ bl (rwQi g (mO g o ab be lm ra ta ti fa um ua hh ++ (aW g (o 1) 3 rf ++ (aW g (o 2) 45 r ++ (aW g (o 5) 94 tl ++ [])))) (mO g o ab be lm ra ta ti fa um ua hh ++ (aW g (o 1) 3 (if yPl r p = true then rf else upd rf 0 (rf 0 + 1)) ++ (aW g (o 2) 45 r ++ (aW g (o 5) 94 tl ++ [])))) (if yPl r p = true then (if setB (fun k => allN (fun n => !decide (tl (64 + 5 * n) = p) || decide (frc (nI k) (tl (64 + 5 * n + 1)) (tl (64 + 5 * n + 2)) (tl (64 + 5 * n + 3)) = tl (64 + 5 * n + 4))) S) 6 = 0 then -1 else (akP r p (setB (fun k => allN (fun n => !decide (tl (64 + 5 * n) = p) || decide (frc (nI k) (tl (64 + 5 * n + 1)) (tl (64 + 5 * n + 2)) (tl (64 + 5 * n + 3)) = tl (64 + 5 * n + 4))) S) 6) (10 * 21)).1) else -2)) ([.ref (o 0), .int (p)] : List Value).toArray ss 0 0 (dm (mO g o ab be lm ra ta ti fa um ua hh ++ (aW g (o 1) 3 rf ++ (aW g (o 2) 45 r ++ (aW g (o 5) 94 tl ++ [])))))) (F0 mm 38 ls []) := by
      intro kk
      induction kk with
      | zero => intro k hmu; exact absurd hmu (Nat.not_lt_zero _)
      | succ kk ih38 =>
        intro k hmu hk H locs hP hD hS ls hl
        refine lv_iload hx hb dX9_ask_38 (lv_at hl 5 rfl) ?_
        refine lv_bipush (v := 20) hx hb dX9_ask_40 rfl ?_
        refine lv_icmp_gt (tgt := 228) hx hb dX9_ask_42 (by decide) (fun c2 => ?_) (fun c2 => ?_)
        · skip
          have c2' := Int32.not_le.mpr c2
          have hk9 : k = 21 := by have h9 := c2; rw [Int32.lt_iff_toInt_lt, nI_ti (by omega), show (20 : Int32).toInt = 20 from rfl] at h9; omega
          subst hk9
          refine lv_iload_n hx hb dX9_ask_228 rfl (lv_at hl 3 rfl) ?_
          exact ret_rwi hx hb hr hlk (by rw [if_pos c1, ← hse]) (kP_eq (by rw [if_pos c1]) hP) hS dX9_ask_229
        · skip
          have c2' := Int32.not_lt.mp c2
          have hk9 : k < 21 := by have h9 := c2; rw [Int32.lt_iff_toInt_lt, nI_ti (by omega), show (20 : Int32).toInt = 20 from rfl] at h9; omega
          refine lv_iconst (v := 1) hx hb dX9_ask_45 rfl ?_
          refine lv_istore (lv' := [(6, .int (1)), (0, .ref (o 0)), (1, .int (p)), (2, .int (s)), (3, .int (if s = 0 then -1 else (akP r p s (10 * k)).1)), (4, .int (if s = 0 then 7 else (akP r p s (10 * k)).2)), (5, .int (nI k))]) hx hb dX9_ask_46 hl (by decide) rfl (fun ls hl => ?_)
          have cut48 : ∀ kk : Nat, ∀ (n : Nat), 11 - n < kk → (hn : n ≤ 10) → (hn1 : 1 ≤ n) → ∀ (H : Heap) (locs : List Loc), kP g (mO g o ab be lm ra ta ti fa um ua hh ++ (aW g (o 1) 3 rf ++ (aW g (o 2) 45 r ++ (aW g (o 5) 94 tl ++ [])))) H → va_D (dm (mO g o ab be lm ra ta ti fa um ua hh ++ (aW g (o 1) 3 rf ++ (aW g (o 2) 45 r ++ (aW g (o 5) 94 tl ++ []))))) (mO g o ab be lm ra ta ti fa um ua hh ++ (aW g (o 1) 3 rf ++ (aW g (o 2) 45 r ++ (aW g (o 5) 94 tl ++ [])))) → va_S (dm (mO g o ab be lm ra ta ti fa um ua hh ++ (aW g (o 1) 3 rf ++ (aW g (o 2) 45 r ++ (aW g (o 5) 94 tl ++ []))))) ss.heap H locs → ∀ (ls : Array Slot), lv_has ls 11 [(0, .ref (o 0)), (1, .int (p)), (2, .int (s)), (3, .int (if s = 0 then -1 else (akP r p s (10 * k + n)).1)), (4, .int (if s = 0 then 7 else (akP r p s (10 * k + n)).2)), (5, .int (nI k)), (6, .int (nI n))] → W pp l ee (rmN 2) ss mm ([.ref (o 0), .int (p)] : List Value).toArray bl mt cd H locs 0 0 (MQ bl (rwQi g (mO g o ab be lm ra ta ti fa um ua hh ++ (aW g (o 1) 3 rf ++ (aW g (o 2) 45 r ++ (aW g (o 5) 94 tl ++ [])))) (mO g o ab be lm ra ta ti fa um ua hh ++ (aW g (o 1) 3 (if yPl r p = true then rf else upd rf 0 (rf 0 + 1)) ++ (aW g (o 2) 45 r ++ (aW g (o 5) 94 tl ++ [])))) (if yPl r p = true then (if setB (fun k => allN (fun n => !decide (tl (64 + 5 * n) = p) || decide (frc (nI k) (tl (64 + 5 * n + 1)) (tl (64 + 5 * n + 2)) (tl (64 + 5 * n + 3)) = tl (64 + 5 * n + 4))) S) 6 = 0 then -1 else (akP r p (setB (fun k => allN (fun n => !decide (tl (64 + 5 * n) = p) || decide (frc (nI k) (tl (64 + 5 * n + 1)) (tl (64 + 5 * n + 2)) (tl (64 + 5 * n + 3)) = tl (64 + 5 * n + 4))) S) 6) (10 * 21)).1) else -2)) ([.ref (o 0), .int (p)] : List Value).toArray ss 0 0 (dm (mO g o ab be lm ra ta ti fa um ua hh ++ (aW g (o 1) 3 rf ++ (aW g (o 2) 45 r ++ (aW g (o 5) 94 tl ++ [])))))) (F0 mm 48 ls []) := by
            intro kk
            induction kk with
            | zero => intro n hmu; exact absurd hmu (Nat.not_lt_zero _)
            | succ kk ih48 =>
              intro n hmu hn hn1 H locs hP hD hS ls hl
              refine lv_iload hx hb dX9_ask_48 (lv_at hl 6 rfl) ?_
              refine lv_bipush (v := 10) hx hb dX9_ask_50 rfl ?_
              refine lv_icmp_ge (tgt := 222) hx hb dX9_ask_52 (by decide) (fun c3 => ?_) (fun c3 => ?_)
              · skip
                have c3' := Int32.not_lt.mpr c3
                have hn9 : n = 10 := by have := lp_ge (by omega) c3; rw [show (10 : Int32).toInt = 10 from rfl] at this; omega
                refine lv_iinc (v := nI (k + 1)) (lv' := [(5, .int (nI (k + 1))), (0, .ref (o 0)), (1, .int (p)), (2, .int (s)), (3, .int (if s = 0 then -1 else (akP r p s (10 * k + n)).1)), (4, .int (if s = 0 then 7 else (akP r p s (10 * k + n)).2)), (6, .int (nI n))]) hx hb dX9_ask_222 hl (k := 5) rfl (inc_nI k) (by decide) rfl (fun ls hl => ?_)
                refine lv_goto (tgt := 38) hx hb dX9_ask_225 (by decide) ?_
                have e4 : (if s = 0 then -1 else (akP r p s (10 * (k + 1))).1) = if s = 0 then -1 else (akP r p s (10 * k + n)).1 := by first | (rw [if_pos hs9, if_pos hs9]) | (rw [hn9, show 10 * (k + 1) = 10 * k + 10 from by omega])
                have e5 : (if s = 0 then 7 else (akP r p s (10 * (k + 1))).2) = if s = 0 then 7 else (akP r p s (10 * k + n)).2 := by first | (rw [if_pos hs9, if_pos hs9]) | (rw [hn9, show 10 * (k + 1) = 10 * k + 10 from by omega])
                have hl : lv_has ls 11 [(5, .int (nI (k + 1))), (0, .ref (o 0)), (1, .int (p)), (2, .int (s)), (3, .int (if s = 0 then -1 else (akP r p s (10 * (k + 1))).1)), (4, .int (if s = 0 then 7 else (akP r p s (10 * (k + 1))).2)), (6, .int (nI n))] := by rw [e4, e5]; exact hl
                exact ih38 (k + 1) (by omega) (by omega) _ _ hP hD hS _ (lv_sub hl [1, 2, 3, 4, 5, 0] rfl)
              · skip
                have c3' := Int32.not_le.mp c3
                have hn9 : n < 10 := by have := lp_lt (by omega) c3; rw [show (10 : Int32).toInt = 10 from rfl] at this; omega
                refine lv_iload_n hx hb dX9_ask_55 rfl (lv_at hl 2 rfl) ?_
                refine lv_if_eq (tgt := 222) hx hb dX9_ask_56 (by decide) (fun c4 => ?_) (fun c4 => ?_)
                · skip
                  have hs9 : s = 0 := c4
                  refine lv_iinc (v := nI (k + 1)) (lv' := [(5, .int (nI (k + 1))), (0, .ref (o 0)), (1, .int (p)), (2, .int (s)), (3, .int (if s = 0 then -1 else (akP r p s (10 * k + n)).1)), (4, .int (if s = 0 then 7 else (akP r p s (10 * k + n)).2)), (6, .int (nI n))]) hx hb dX9_ask_222 hl (k := 5) rfl (inc_nI k) (by decide) rfl (fun ls hl => ?_)
                  refine lv_goto (tgt := 38) hx hb dX9_ask_225 (by decide) ?_
                  have e4 : (if s = 0 then -1 else (akP r p s (10 * (k + 1))).1) = if s = 0 then -1 else (akP r p s (10 * k + n)).1 := by first | (rw [if_pos hs9, if_pos hs9]) | (rw [hn9, show 10 * (k + 1) = 10 * k + 10 from by omega])
                  have e5 : (if s = 0 then 7 else (akP r p s (10 * (k + 1))).2) = if s = 0 then 7 else (akP r p s (10 * k + n)).2 := by first | (rw [if_pos hs9, if_pos hs9]) | (rw [hn9, show 10 * (k + 1) = 10 * k + 10 from by omega])
                  have hl : lv_has ls 11 [(5, .int (nI (k + 1))), (0, .ref (o 0)), (1, .int (p)), (2, .int (s)), (3, .int (if s = 0 then -1 else (akP r p s (10 * (k + 1))).1)), (4, .int (if s = 0 then 7 else (akP r p s (10 * (k + 1))).2)), (6, .int (nI n))] := by rw [e4, e5]; exact hl
                  exact ih38 (k + 1) (by omega) (by omega) _ _ hP hD hS _ (lv_sub hl [1, 2, 3, 4, 5, 0] rfl)
                · skip
                  have hs9 : ¬ s = 0 := c4
                  have hl : lv_has ls 11 [(0, .ref (o 0)), (1, .int (p)), (2, .int (s)), (3, .int ((akP r p s (10 * k + n)).1)), (4, .int ((akP r p s (10 * k + n)).2)), (5, .int (nI k)), (6, .int (nI n))] := by rw [if_neg hs9, if_neg hs9] at hl; exact hl
                  have hd9 : (10 * k + n) / 10 = k := by omega
                  have hm9 : (10 * k + n) % 10 = n := by omega
                  refine lv_iconst (v := 0) hx hb dX9_ask_59 rfl ?_
                  refine lv_istore (lv' := [(7, .int (0)), (0, .ref (o 0)), (1, .int (p)), (2, .int (s)), (3, .int ((akP r p s (10 * k + n)).1)), (4, .int ((akP r p s (10 * k + n)).2)), (5, .int (nI k)), (6, .int (nI n))]) hx hb dX9_ask_60 hl (by decide) rfl (fun ls hl => ?_)
                  refine lv_iconst (v := 0) hx hb dX9_ask_62 rfl ?_
                  refine lv_istore (lv' := [(8, .int (0)), (7, .int (0)), (0, .ref (o 0)), (1, .int (p)), (2, .int (s)), (3, .int ((akP r p s (10 * k + n)).1)), (4, .int ((akP r p s (10 * k + n)).2)), (5, .int (nI k)), (6, .int (nI n))]) hx hb dX9_ask_63 hl (by decide) rfl (fun ls hl => ?_)
                  have cut65 : ∀ kk : Nat, ∀ (y : Nat), 7 - y < kk → (hy : y ≤ 6) → ∀ (H : Heap) (locs : List Loc), kP g (mO g o ab be lm ra ta ti fa um ua hh ++ (aW g (o 1) 3 rf ++ (aW g (o 2) 45 r ++ (aW g (o 5) 94 tl ++ [])))) H → va_D (dm (mO g o ab be lm ra ta ti fa um ua hh ++ (aW g (o 1) 3 rf ++ (aW g (o 2) 45 r ++ (aW g (o 5) 94 tl ++ []))))) (mO g o ab be lm ra ta ti fa um ua hh ++ (aW g (o 1) 3 rf ++ (aW g (o 2) 45 r ++ (aW g (o 5) 94 tl ++ [])))) → va_S (dm (mO g o ab be lm ra ta ti fa um ua hh ++ (aW g (o 1) 3 rf ++ (aW g (o 2) 45 r ++ (aW g (o 5) 94 tl ++ []))))) ss.heap H locs → ∀ (ls : Array Slot), lv_has ls 11 [(0, .ref (o 0)), (1, .int (p)), (2, .int (s)), (3, .int ((akP r p s (10 * k + n)).1)), (4, .int ((akP r p s (10 * k + n)).2)), (5, .int (nI k)), (6, .int (nI n)), (7, .int (mxA (fun a => frc (nI a) (r (6 + cl p)) (nI n) (nI k)) s y)), (8, .int (nI y))] → W pp l ee (rmN 2) ss mm ([.ref (o 0), .int (p)] : List Value).toArray bl mt cd H locs 0 0 (MQ bl (rwQi g (mO g o ab be lm ra ta ti fa um ua hh ++ (aW g (o 1) 3 rf ++ (aW g (o 2) 45 r ++ (aW g (o 5) 94 tl ++ [])))) (mO g o ab be lm ra ta ti fa um ua hh ++ (aW g (o 1) 3 (if yPl r p = true then rf else upd rf 0 (rf 0 + 1)) ++ (aW g (o 2) 45 r ++ (aW g (o 5) 94 tl ++ [])))) (if yPl r p = true then (if setB (fun k => allN (fun n => !decide (tl (64 + 5 * n) = p) || decide (frc (nI k) (tl (64 + 5 * n + 1)) (tl (64 + 5 * n + 2)) (tl (64 + 5 * n + 3)) = tl (64 + 5 * n + 4))) S) 6 = 0 then -1 else (akP r p (setB (fun k => allN (fun n => !decide (tl (64 + 5 * n) = p) || decide (frc (nI k) (tl (64 + 5 * n + 1)) (tl (64 + 5 * n + 2)) (tl (64 + 5 * n + 3)) = tl (64 + 5 * n + 4))) S) 6) (10 * 21)).1) else -2)) ([.ref (o 0), .int (p)] : List Value).toArray ss 0 0 (dm (mO g o ab be lm ra ta ti fa um ua hh ++ (aW g (o 1) 3 rf ++ (aW g (o 2) 45 r ++ (aW g (o 5) 94 tl ++ [])))))) (F0 mm 65 ls []) := by
                    intro kk
                    induction kk with
                    | zero => intro y hmu; exact absurd hmu (Nat.not_lt_zero _)
                    | succ kk ih65 =>
                      intro y hmu hy H locs hP hD hS ls hl
                      refine lv_iload hx hb dX9_ask_65 (lv_at hl 8 rfl) ?_
                      refine lv_bipush (v := 6) hx hb dX9_ask_67 rfl ?_
                      refine lv_icmp_ge (tgt := 180) hx hb dX9_ask_69 (by decide) (fun c5 => ?_) (fun c5 => ?_)
                      · skip
                        have c5' := Int32.not_lt.mpr c5
                        have hy9 : y = 6 := by have := lp_ge (by omega) c5; rw [show (6 : Int32).toInt = 6 from rfl] at this; omega
                        have hl : lv_has ls 11 [(0, .ref (o 0)), (1, .int (p)), (2, .int (s)), (3, .int ((akP r p s (10 * k + n)).1)), (4, .int ((akP r p s (10 * k + n)).2)), (5, .int (nI k)), (6, .int (nI n)), (7, .int (mxA (fun a => frc (nI a) (r (6 + cl p)) (nI n) (nI k)) s 6)), (8, .int (nI 6))] := by rw [hy9] at hl; exact hl
                        refine lv_iload hx hb dX9_ask_180 (lv_at hl 7 rfl) ?_
                        refine lv_iload hx hb dX9_ask_182 (lv_at hl 4 rfl) ?_
                        refine lv_icmp_ge (tgt := 198) hx hb dX9_ask_184 (by decide) (fun c6 => ?_) (fun c6 => ?_)
                        · skip
                          have c6' := Int32.not_lt.mpr c6
                          refine lv_iload_n hx hb dX9_ask_198 rfl (lv_at hl 3 rfl) ?_
                          refine lv_istore_n (lv' := [(3, .int ((akP r p s (10 * k + n)).1)), (0, .ref (o 0)), (1, .int (p)), (2, .int (s)), (4, .int ((akP r p s (10 * k + n)).2)), (5, .int (nI k)), (6, .int (nI n)), (7, .int (mxA (fun a => frc (nI a) (r (6 + cl p)) (nI n) (nI k)) s 6)), (8, .int (nI 6))]) hx hb dX9_ask_199 rfl hl (by decide) rfl (fun ls hl => ?_)
                          refine lv_iload hx hb dX9_ask_200 (lv_at hl 7 rfl) ?_
                          refine lv_iload hx hb dX9_ask_202 (lv_at hl 4 rfl) ?_
                          refine lv_icmp_ge (tgt := 212) hx hb dX9_ask_204 (by decide) (fun c7 => ?_) (fun c7 => ?_)
                          · skip
                            have c7' := Int32.not_lt.mpr c7
                            refine lv_iload hx hb dX9_ask_212 (lv_at hl 4 rfl) ?_
                            refine lv_istore (lv' := [(4, .int ((akP r p s (10 * k + n)).2)), (3, .int ((akP r p s (10 * k + n)).1)), (0, .ref (o 0)), (1, .int (p)), (2, .int (s)), (5, .int (nI k)), (6, .int (nI n)), (7, .int (mxA (fun a => frc (nI a) (r (6 + cl p)) (nI n) (nI k)) s 6)), (8, .int (nI 6))]) hx hb dX9_ask_214 hl (by decide) rfl (fun ls hl => ?_)
                            refine lv_iinc (v := nI (n + 1)) (lv' := [(6, .int (nI (n + 1))), (4, .int ((akP r p s (10 * k + n)).2)), (3, .int ((akP r p s (10 * k + n)).1)), (0, .ref (o 0)), (1, .int (p)), (2, .int (s)), (5, .int (nI k)), (7, .int (mxA (fun a => frc (nI a) (r (6 + cl p)) (nI n) (nI k)) s 6)), (8, .int (nI 6))]) hx hb dX9_ask_216 hl (k := 6) rfl (inc_nI n) (by decide) rfl (fun ls hl => ?_)
                            refine lv_goto (tgt := 48) hx hb dX9_ask_219 (by decide) ?_
                            have e4 : (if s = 0 then -1 else (akP r p s (10 * k + (n + 1))).1) = (akP r p s (10 * k + n)).1 := by rw [if_neg hs9, show 10 * k + (n + 1) = (10 * k + n) + 1 from rfl, akP_s (show ¬ (10 * k + n) % 10 = 0 by omega), hd9, hm9, if_pos c6]
                            have e5 : (if s = 0 then 7 else (akP r p s (10 * k + (n + 1))).2) = (akP r p s (10 * k + n)).2 := by rw [if_neg hs9, show 10 * k + (n + 1) = (10 * k + n) + 1 from rfl, akP_s (show ¬ (10 * k + n) % 10 = 0 by omega), hd9, hm9, if_pos c6]
                            have hl : lv_has ls 11 [(6, .int (nI (n + 1))), (4, .int (if s = 0 then 7 else (akP r p s (10 * k + (n + 1))).2)), (3, .int (if s = 0 then -1 else (akP r p s (10 * k + (n + 1))).1)), (0, .ref (o 0)), (1, .int (p)), (2, .int (s)), (5, .int (nI k)), (7, .int (mxA (fun a => frc (nI a) (r (6 + cl p)) (nI n) (nI k)) s 6)), (8, .int (nI 6))] := by rw [e4, e5]; exact hl
                            exact ih48 (n + 1) (by omega) (by omega) (by omega) _ _ hP hD hS _ (lv_sub hl [3, 4, 5, 2, 1, 6, 0] rfl)
                          · skip
                            have c7' := Int32.not_le.mp c7
                            exact absurd c6 c7
                        · skip
                          have c6' := Int32.not_le.mp c6
                          refine lv_bipush (v := 10) hx hb dX9_ask_187 rfl ?_
                          refine lv_iload hx hb dX9_ask_189 (lv_at hl 5 rfl) ?_
                          refine lv_imul hx hb dX9_ask_191 ?_
                          refine top_i (x := 10 * (nI k)) (y := nI (10 * k)) (show nI 10 * nI k = _ from pk_mul 10 k) ?_
                          refine lv_iload hx hb dX9_ask_192 (lv_at hl 6 rfl) ?_
                          refine lv_iadd hx hb dX9_ask_194 ?_
                          refine top_i (x := (nI (10 * k)) + (nI n)) (y := nI (10 * k + n)) (nI_add (10 * k) n) ?_
                          refine lv_goto (tgt := 199) hx hb dX9_ask_195 (by decide) ?_
                          refine lv_istore_n (lv' := [(3, .int (nI (10 * k + n))), (0, .ref (o 0)), (1, .int (p)), (2, .int (s)), (4, .int ((akP r p s (10 * k + n)).2)), (5, .int (nI k)), (6, .int (nI n)), (7, .int (mxA (fun a => frc (nI a) (r (6 + cl p)) (nI n) (nI k)) s 6)), (8, .int (nI 6))]) hx hb dX9_ask_199 rfl hl (by decide) rfl (fun ls hl => ?_)
                          refine lv_iload hx hb dX9_ask_200 (lv_at hl 7 rfl) ?_
                          refine lv_iload hx hb dX9_ask_202 (lv_at hl 4 rfl) ?_
                          refine lv_icmp_ge (tgt := 212) hx hb dX9_ask_204 (by decide) (fun c8 => ?_) (fun c8 => ?_)
                          · skip
                            have c8' := Int32.not_lt.mpr c8
                            exact absurd c8 c6
                          · skip
                            have c8' := Int32.not_le.mp c8
                            refine lv_iload hx hb dX9_ask_207 (lv_at hl 7 rfl) ?_
                            refine lv_goto (tgt := 214) hx hb dX9_ask_209 (by decide) ?_
                            refine lv_istore (lv' := [(4, .int (mxA (fun a => frc (nI a) (r (6 + cl p)) (nI n) (nI k)) s 6)), (3, .int (nI (10 * k + n))), (0, .ref (o 0)), (1, .int (p)), (2, .int (s)), (5, .int (nI k)), (6, .int (nI n)), (7, .int (mxA (fun a => frc (nI a) (r (6 + cl p)) (nI n) (nI k)) s 6)), (8, .int (nI 6))]) hx hb dX9_ask_214 hl (by decide) rfl (fun ls hl => ?_)
                            refine lv_iinc (v := nI (n + 1)) (lv' := [(6, .int (nI (n + 1))), (4, .int (mxA (fun a => frc (nI a) (r (6 + cl p)) (nI n) (nI k)) s 6)), (3, .int (nI (10 * k + n))), (0, .ref (o 0)), (1, .int (p)), (2, .int (s)), (5, .int (nI k)), (7, .int (mxA (fun a => frc (nI a) (r (6 + cl p)) (nI n) (nI k)) s 6)), (8, .int (nI 6))]) hx hb dX9_ask_216 hl (k := 6) rfl (inc_nI n) (by decide) rfl (fun ls hl => ?_)
                            refine lv_goto (tgt := 48) hx hb dX9_ask_219 (by decide) ?_
                            have e4 : (if s = 0 then -1 else (akP r p s (10 * k + (n + 1))).1) = nI (10 * k + n) := by rw [if_neg hs9, show 10 * k + (n + 1) = (10 * k + n) + 1 from rfl, akP_s (show ¬ (10 * k + n) % 10 = 0 by omega), hd9, hm9, if_neg c6]
                            have e5 : (if s = 0 then 7 else (akP r p s (10 * k + (n + 1))).2) = mxA (fun a => frc (nI a) (r (6 + cl p)) (nI n) (nI k)) s 6 := by rw [if_neg hs9, show 10 * k + (n + 1) = (10 * k + n) + 1 from rfl, akP_s (show ¬ (10 * k + n) % 10 = 0 by omega), hd9, hm9, if_neg c6]
                            have hl : lv_has ls 11 [(6, .int (nI (n + 1))), (4, .int (if s = 0 then 7 else (akP r p s (10 * k + (n + 1))).2)), (3, .int (if s = 0 then -1 else (akP r p s (10 * k + (n + 1))).1)), (0, .ref (o 0)), (1, .int (p)), (2, .int (s)), (5, .int (nI k)), (7, .int (mxA (fun a => frc (nI a) (r (6 + cl p)) (nI n) (nI k)) s 6)), (8, .int (nI 6))] := by rw [e4, e5]; exact hl
                            exact ih48 (n + 1) (by omega) (by omega) (by omega) _ _ hP hD hS _ (lv_sub hl [3, 4, 5, 2, 1, 6, 0] rfl)
                      · skip
                        have c5' := Int32.not_le.mp c5
                        have hy9 : y < 6 := by have := lp_lt (by omega) c5; rw [show (6 : Int32).toInt = 6 from rfl] at this; omega
                        refine lv_iconst (v := 0) hx hb dX9_ask_72 rfl ?_
                        refine lv_istore (lv' := [(9, .int (0)), (0, .ref (o 0)), (1, .int (p)), (2, .int (s)), (3, .int ((akP r p s (10 * k + n)).1)), (4, .int ((akP r p s (10 * k + n)).2)), (5, .int (nI k)), (6, .int (nI n)), (7, .int (mxA (fun a => frc (nI a) (r (6 + cl p)) (nI n) (nI k)) s y)), (8, .int (nI y))]) hx hb dX9_ask_73 hl (by decide) rfl (fun ls hl => ?_)
                        refine lv_iconst (v := 0) hx hb dX9_ask_75 rfl ?_
                        refine lv_istore (lv' := [(10, .int (0)), (9, .int (0)), (0, .ref (o 0)), (1, .int (p)), (2, .int (s)), (3, .int ((akP r p s (10 * k + n)).1)), (4, .int ((akP r p s (10 * k + n)).2)), (5, .int (nI k)), (6, .int (nI n)), (7, .int (mxA (fun a => frc (nI a) (r (6 + cl p)) (nI n) (nI k)) s y)), (8, .int (nI y))]) hx hb dX9_ask_76 hl (by decide) rfl (fun ls hl => ?_)
                        have cut78 : ∀ kk : Nat, ∀ (z : Nat), 7 - z < kk → (hz : z ≤ 6) → (hzy : z = 0 ∨ hasB s (nI y) = true) → ∀ (H : Heap) (locs : List Loc), kP g (mO g o ab be lm ra ta ti fa um ua hh ++ (aW g (o 1) 3 rf ++ (aW g (o 2) 45 r ++ (aW g (o 5) 94 tl ++ [])))) H → va_D (dm (mO g o ab be lm ra ta ti fa um ua hh ++ (aW g (o 1) 3 rf ++ (aW g (o 2) 45 r ++ (aW g (o 5) 94 tl ++ []))))) (mO g o ab be lm ra ta ti fa um ua hh ++ (aW g (o 1) 3 rf ++ (aW g (o 2) 45 r ++ (aW g (o 5) 94 tl ++ [])))) → va_S (dm (mO g o ab be lm ra ta ti fa um ua hh ++ (aW g (o 1) 3 rf ++ (aW g (o 2) 45 r ++ (aW g (o 5) 94 tl ++ []))))) ss.heap H locs → ∀ (ls : Array Slot), lv_has ls 11 [(0, .ref (o 0)), (1, .int (p)), (2, .int (s)), (3, .int ((akP r p s (10 * k + n)).1)), (4, .int ((akP r p s (10 * k + n)).2)), (5, .int (nI k)), (6, .int (nI n)), (7, .int (mxA (fun a => frc (nI a) (r (6 + cl p)) (nI n) (nI k)) s y)), (8, .int (nI y)), (9, .int (cnA (fun a => frc (nI a) (r (6 + cl p)) (nI n) (nI k)) s y z)), (10, .int (nI z))] → W pp l ee (rmN 2) ss mm ([.ref (o 0), .int (p)] : List Value).toArray bl mt cd H locs 0 0 (MQ bl (rwQi g (mO g o ab be lm ra ta ti fa um ua hh ++ (aW g (o 1) 3 rf ++ (aW g (o 2) 45 r ++ (aW g (o 5) 94 tl ++ [])))) (mO g o ab be lm ra ta ti fa um ua hh ++ (aW g (o 1) 3 (if yPl r p = true then rf else upd rf 0 (rf 0 + 1)) ++ (aW g (o 2) 45 r ++ (aW g (o 5) 94 tl ++ [])))) (if yPl r p = true then (if setB (fun k => allN (fun n => !decide (tl (64 + 5 * n) = p) || decide (frc (nI k) (tl (64 + 5 * n + 1)) (tl (64 + 5 * n + 2)) (tl (64 + 5 * n + 3)) = tl (64 + 5 * n + 4))) S) 6 = 0 then -1 else (akP r p (setB (fun k => allN (fun n => !decide (tl (64 + 5 * n) = p) || decide (frc (nI k) (tl (64 + 5 * n + 1)) (tl (64 + 5 * n + 2)) (tl (64 + 5 * n + 3)) = tl (64 + 5 * n + 4))) S) 6) (10 * 21)).1) else -2)) ([.ref (o 0), .int (p)] : List Value).toArray ss 0 0 (dm (mO g o ab be lm ra ta ti fa um ua hh ++ (aW g (o 1) 3 rf ++ (aW g (o 2) 45 r ++ (aW g (o 5) 94 tl ++ [])))))) (F0 mm 78 ls []) := by
                          intro kk
                          induction kk with
                          | zero => intro z hmu; exact absurd hmu (Nat.not_lt_zero _)
                          | succ kk ih78 =>
                            intro z hmu hz hzy H locs hP hD hS ls hl
                            refine lv_iload hx hb dX9_ask_78 (lv_at hl 10 rfl) ?_
                            refine lv_bipush (v := 6) hx hb dX9_ask_80 rfl ?_
                            refine lv_icmp_ge (tgt := 158) hx hb dX9_ask_82 (by decide) (fun c9 => ?_) (fun c9 => ?_)
                            · skip
                              have c9' := Int32.not_lt.mpr c9
                              have hz9 : z = 6 := by have := lp_ge (by omega) c9; rw [show (6 : Int32).toInt = 6 from rfl] at this; omega
                              have e8 : (if hasB s (nI y) = true then cnA (fun a => frc (nI a) (r (6 + cl p)) (nI n) (nI k)) s y 6 else 0) = cnA (fun a => frc (nI a) (r (6 + cl p)) (nI n) (nI k)) s y z := hzy.elim (fun h9 => by omega) (fun h9 => by rw [if_pos h9, hz9])
                              have hl : lv_has ls 11 [(0, .ref (o 0)), (1, .int (p)), (2, .int (s)), (3, .int ((akP r p s (10 * k + n)).1)), (4, .int ((akP r p s (10 * k + n)).2)), (5, .int (nI k)), (6, .int (nI n)), (7, .int (mxA (fun a => frc (nI a) (r (6 + cl p)) (nI n) (nI k)) s y)), (8, .int (nI y)), (9, .int ((if hasB s (nI y) = true then cnA (fun a => frc (nI a) (r (6 + cl p)) (nI n) (nI k)) s y 6 else 0))), (10, .int (nI z))] := by rw [e8]; exact hl
                              refine lv_iload hx hb dX9_ask_158 (lv_at hl 9 rfl) ?_
                              refine lv_iload hx hb dX9_ask_160 (lv_at hl 7 rfl) ?_
                              refine lv_icmp_le (tgt := 170) hx hb dX9_ask_162 (by decide) (fun c10 => ?_) (fun c10 => ?_)
                              · skip
                                have c10' := Int32.not_lt.mpr c10
                                refine lv_iload hx hb dX9_ask_170 (lv_at hl 7 rfl) ?_
                                refine lv_istore (lv' := [(7, .int (mxA (fun a => frc (nI a) (r (6 + cl p)) (nI n) (nI k)) s y)), (0, .ref (o 0)), (1, .int (p)), (2, .int (s)), (3, .int ((akP r p s (10 * k + n)).1)), (4, .int ((akP r p s (10 * k + n)).2)), (5, .int (nI k)), (6, .int (nI n)), (8, .int (nI y)), (9, .int ((if hasB s (nI y) = true then cnA (fun a => frc (nI a) (r (6 + cl p)) (nI n) (nI k)) s y 6 else 0))), (10, .int (nI z))]) hx hb dX9_ask_172 hl (by decide) rfl (fun ls hl => ?_)
                                refine lv_iinc (v := nI (y + 1)) (lv' := [(8, .int (nI (y + 1))), (7, .int (mxA (fun a => frc (nI a) (r (6 + cl p)) (nI n) (nI k)) s y)), (0, .ref (o 0)), (1, .int (p)), (2, .int (s)), (3, .int ((akP r p s (10 * k + n)).1)), (4, .int ((akP r p s (10 * k + n)).2)), (5, .int (nI k)), (6, .int (nI n)), (9, .int ((if hasB s (nI y) = true then cnA (fun a => frc (nI a) (r (6 + cl p)) (nI n) (nI k)) s y 6 else 0))), (10, .int (nI z))]) hx hb dX9_ask_174 hl (k := 8) rfl (inc_nI y) (by decide) rfl (fun ls hl => ?_)
                                refine lv_goto (tgt := 65) hx hb dX9_ask_177 (by decide) ?_
                                have e7 : mxA (fun a => frc (nI a) (r (6 + cl p)) (nI n) (nI k)) s (y + 1) = mxA (fun a => frc (nI a) (r (6 + cl p)) (nI n) (nI k)) s y := if_pos c10
                                have hl : lv_has ls 11 [(8, .int (nI (y + 1))), (7, .int (mxA (fun a => frc (nI a) (r (6 + cl p)) (nI n) (nI k)) s (y + 1))), (0, .ref (o 0)), (1, .int (p)), (2, .int (s)), (3, .int ((akP r p s (10 * k + n)).1)), (4, .int ((akP r p s (10 * k + n)).2)), (5, .int (nI k)), (6, .int (nI n)), (9, .int ((if hasB s (nI y) = true then cnA (fun a => frc (nI a) (r (6 + cl p)) (nI n) (nI k)) s y 6 else 0))), (10, .int (nI z))] := by rw [e7]; exact hl
                                exact ih65 (y + 1) (by omega) (by omega) _ _ hP hD hS _ (lv_sub hl [2, 3, 4, 5, 6, 7, 8, 1, 0] rfl)
                              · skip
                                have c10' := Int32.not_le.mp c10
                                refine lv_iload hx hb dX9_ask_165 (lv_at hl 9 rfl) ?_
                                refine lv_goto (tgt := 172) hx hb dX9_ask_167 (by decide) ?_
                                refine lv_istore (lv' := [(7, .int ((if hasB s (nI y) = true then cnA (fun a => frc (nI a) (r (6 + cl p)) (nI n) (nI k)) s y 6 else 0))), (0, .ref (o 0)), (1, .int (p)), (2, .int (s)), (3, .int ((akP r p s (10 * k + n)).1)), (4, .int ((akP r p s (10 * k + n)).2)), (5, .int (nI k)), (6, .int (nI n)), (8, .int (nI y)), (9, .int ((if hasB s (nI y) = true then cnA (fun a => frc (nI a) (r (6 + cl p)) (nI n) (nI k)) s y 6 else 0))), (10, .int (nI z))]) hx hb dX9_ask_172 hl (by decide) rfl (fun ls hl => ?_)
                                refine lv_iinc (v := nI (y + 1)) (lv' := [(8, .int (nI (y + 1))), (7, .int ((if hasB s (nI y) = true then cnA (fun a => frc (nI a) (r (6 + cl p)) (nI n) (nI k)) s y 6 else 0))), (0, .ref (o 0)), (1, .int (p)), (2, .int (s)), (3, .int ((akP r p s (10 * k + n)).1)), (4, .int ((akP r p s (10 * k + n)).2)), (5, .int (nI k)), (6, .int (nI n)), (9, .int ((if hasB s (nI y) = true then cnA (fun a => frc (nI a) (r (6 + cl p)) (nI n) (nI k)) s y 6 else 0))), (10, .int (nI z))]) hx hb dX9_ask_174 hl (k := 8) rfl (inc_nI y) (by decide) rfl (fun ls hl => ?_)
                                refine lv_goto (tgt := 65) hx hb dX9_ask_177 (by decide) ?_
                                have e7 : mxA (fun a => frc (nI a) (r (6 + cl p)) (nI n) (nI k)) s (y + 1) = (if hasB s (nI y) = true then cnA (fun a => frc (nI a) (r (6 + cl p)) (nI n) (nI k)) s y 6 else 0) := if_neg c10
                                have hl : lv_has ls 11 [(8, .int (nI (y + 1))), (7, .int (mxA (fun a => frc (nI a) (r (6 + cl p)) (nI n) (nI k)) s (y + 1))), (0, .ref (o 0)), (1, .int (p)), (2, .int (s)), (3, .int ((akP r p s (10 * k + n)).1)), (4, .int ((akP r p s (10 * k + n)).2)), (5, .int (nI k)), (6, .int (nI n)), (9, .int ((if hasB s (nI y) = true then cnA (fun a => frc (nI a) (r (6 + cl p)) (nI n) (nI k)) s y 6 else 0))), (10, .int (nI z))] := by rw [e7]; exact hl
                                exact ih65 (y + 1) (by omega) (by omega) _ _ hP hD hS _ (lv_sub hl [2, 3, 4, 5, 6, 7, 8, 1, 0] rfl)
                            · skip
                              have c9' := Int32.not_le.mp c9
                              have hz9 : z < 6 := by have := lp_lt (by omega) c9; rw [show (6 : Int32).toInt = 6 from rfl] at this; omega
                              refine lv_iload_n hx hb dX9_ask_85 rfl (lv_at hl 2 rfl) ?_
                              refine lv_iload hx hb dX9_ask_86 (lv_at hl 8 rfl) ?_
                              refine ro_i (run_S (As := [.int (s), .int (nI y)]) (rest := []) hC.1 ckX9_has (kX9_has l s (nI y)) (gw_in m_1225 rfl) (fb_nil _) (fun _ _ _ => trivial) ⟨rfl, rfl, Nat.le_of_ble_eq_true rfl, Nat.le_of_ble_eq_true rfl⟩ rfl hl.1 rfl (Nat.le_of_ble_eq_true rfl) dX9_ask_88 ⟨Nat.le_of_ble_eq_true rfl, Nat.le_of_ble_eq_true rfl⟩) ?_
                              refine lv_if_eq (tgt := 158) hx hb dX9_ask_91 (by decide) (fun c11 => ?_) (fun c11 => ?_)
                              · skip
                                have c11 := b2i_0 c11
                                have e8 : (if hasB s (nI y) = true then cnA (fun a => frc (nI a) (r (6 + cl p)) (nI n) (nI k)) s y 6 else 0) = cnA (fun a => frc (nI a) (r (6 + cl p)) (nI n) (nI k)) s y z := hzy.elim (fun h9 => by rw [h9]; exact if_neg (by rw [c11]; decide)) (fun h9 => absurd h9 (by rw [c11]; decide))
                                have hl : lv_has ls 11 [(0, .ref (o 0)), (1, .int (p)), (2, .int (s)), (3, .int ((akP r p s (10 * k + n)).1)), (4, .int ((akP r p s (10 * k + n)).2)), (5, .int (nI k)), (6, .int (nI n)), (7, .int (mxA (fun a => frc (nI a) (r (6 + cl p)) (nI n) (nI k)) s y)), (8, .int (nI y)), (9, .int ((if hasB s (nI y) = true then cnA (fun a => frc (nI a) (r (6 + cl p)) (nI n) (nI k)) s y 6 else 0))), (10, .int (nI z))] := by rw [e8]; exact hl
                                refine lv_iload hx hb dX9_ask_158 (lv_at hl 9 rfl) ?_
                                refine lv_iload hx hb dX9_ask_160 (lv_at hl 7 rfl) ?_
                                refine lv_icmp_le (tgt := 170) hx hb dX9_ask_162 (by decide) (fun c12 => ?_) (fun c12 => ?_)
                                · skip
                                  have c12' := Int32.not_lt.mpr c12
                                  refine lv_iload hx hb dX9_ask_170 (lv_at hl 7 rfl) ?_
                                  refine lv_istore (lv' := [(7, .int (mxA (fun a => frc (nI a) (r (6 + cl p)) (nI n) (nI k)) s y)), (0, .ref (o 0)), (1, .int (p)), (2, .int (s)), (3, .int ((akP r p s (10 * k + n)).1)), (4, .int ((akP r p s (10 * k + n)).2)), (5, .int (nI k)), (6, .int (nI n)), (8, .int (nI y)), (9, .int ((if hasB s (nI y) = true then cnA (fun a => frc (nI a) (r (6 + cl p)) (nI n) (nI k)) s y 6 else 0))), (10, .int (nI z))]) hx hb dX9_ask_172 hl (by decide) rfl (fun ls hl => ?_)
                                  refine lv_iinc (v := nI (y + 1)) (lv' := [(8, .int (nI (y + 1))), (7, .int (mxA (fun a => frc (nI a) (r (6 + cl p)) (nI n) (nI k)) s y)), (0, .ref (o 0)), (1, .int (p)), (2, .int (s)), (3, .int ((akP r p s (10 * k + n)).1)), (4, .int ((akP r p s (10 * k + n)).2)), (5, .int (nI k)), (6, .int (nI n)), (9, .int ((if hasB s (nI y) = true then cnA (fun a => frc (nI a) (r (6 + cl p)) (nI n) (nI k)) s y 6 else 0))), (10, .int (nI z))]) hx hb dX9_ask_174 hl (k := 8) rfl (inc_nI y) (by decide) rfl (fun ls hl => ?_)
                                  refine lv_goto (tgt := 65) hx hb dX9_ask_177 (by decide) ?_
                                  have e7 : mxA (fun a => frc (nI a) (r (6 + cl p)) (nI n) (nI k)) s (y + 1) = mxA (fun a => frc (nI a) (r (6 + cl p)) (nI n) (nI k)) s y := if_pos c12
                                  have hl : lv_has ls 11 [(8, .int (nI (y + 1))), (7, .int (mxA (fun a => frc (nI a) (r (6 + cl p)) (nI n) (nI k)) s (y + 1))), (0, .ref (o 0)), (1, .int (p)), (2, .int (s)), (3, .int ((akP r p s (10 * k + n)).1)), (4, .int ((akP r p s (10 * k + n)).2)), (5, .int (nI k)), (6, .int (nI n)), (9, .int ((if hasB s (nI y) = true then cnA (fun a => frc (nI a) (r (6 + cl p)) (nI n) (nI k)) s y 6 else 0))), (10, .int (nI z))] := by rw [e7]; exact hl
                                  exact ih65 (y + 1) (by omega) (by omega) _ _ hP hD hS _ (lv_sub hl [2, 3, 4, 5, 6, 7, 8, 1, 0] rfl)
                                · skip
                                  have c12' := Int32.not_le.mp c12
                                  refine lv_iload hx hb dX9_ask_165 (lv_at hl 9 rfl) ?_
                                  refine lv_goto (tgt := 172) hx hb dX9_ask_167 (by decide) ?_
                                  refine lv_istore (lv' := [(7, .int ((if hasB s (nI y) = true then cnA (fun a => frc (nI a) (r (6 + cl p)) (nI n) (nI k)) s y 6 else 0))), (0, .ref (o 0)), (1, .int (p)), (2, .int (s)), (3, .int ((akP r p s (10 * k + n)).1)), (4, .int ((akP r p s (10 * k + n)).2)), (5, .int (nI k)), (6, .int (nI n)), (8, .int (nI y)), (9, .int ((if hasB s (nI y) = true then cnA (fun a => frc (nI a) (r (6 + cl p)) (nI n) (nI k)) s y 6 else 0))), (10, .int (nI z))]) hx hb dX9_ask_172 hl (by decide) rfl (fun ls hl => ?_)
                                  refine lv_iinc (v := nI (y + 1)) (lv' := [(8, .int (nI (y + 1))), (7, .int ((if hasB s (nI y) = true then cnA (fun a => frc (nI a) (r (6 + cl p)) (nI n) (nI k)) s y 6 else 0))), (0, .ref (o 0)), (1, .int (p)), (2, .int (s)), (3, .int ((akP r p s (10 * k + n)).1)), (4, .int ((akP r p s (10 * k + n)).2)), (5, .int (nI k)), (6, .int (nI n)), (9, .int ((if hasB s (nI y) = true then cnA (fun a => frc (nI a) (r (6 + cl p)) (nI n) (nI k)) s y 6 else 0))), (10, .int (nI z))]) hx hb dX9_ask_174 hl (k := 8) rfl (inc_nI y) (by decide) rfl (fun ls hl => ?_)
                                  refine lv_goto (tgt := 65) hx hb dX9_ask_177 (by decide) ?_
                                  have e7 : mxA (fun a => frc (nI a) (r (6 + cl p)) (nI n) (nI k)) s (y + 1) = (if hasB s (nI y) = true then cnA (fun a => frc (nI a) (r (6 + cl p)) (nI n) (nI k)) s y 6 else 0) := if_neg c12
                                  have hl : lv_has ls 11 [(8, .int (nI (y + 1))), (7, .int (mxA (fun a => frc (nI a) (r (6 + cl p)) (nI n) (nI k)) s (y + 1))), (0, .ref (o 0)), (1, .int (p)), (2, .int (s)), (3, .int ((akP r p s (10 * k + n)).1)), (4, .int ((akP r p s (10 * k + n)).2)), (5, .int (nI k)), (6, .int (nI n)), (9, .int ((if hasB s (nI y) = true then cnA (fun a => frc (nI a) (r (6 + cl p)) (nI n) (nI k)) s y 6 else 0))), (10, .int (nI z))] := by rw [e7]; exact hl
                                  exact ih65 (y + 1) (by omega) (by omega) _ _ hP hD hS _ (lv_sub hl [2, 3, 4, 5, 6, 7, 8, 1, 0] rfl)
                              · skip
                                have c11 := b2i_1 c11
                                refine lv_iload hx hb dX9_ask_94 (lv_at hl 9 rfl) ?_
                                refine lv_iload_n hx hb dX9_ask_96 rfl (lv_at hl 2 rfl) ?_
                                refine lv_iload hx hb dX9_ask_97 (lv_at hl 10 rfl) ?_
                                refine ro_i (run_S (As := [.int (s), .int (nI z)]) (rest := [.int (cnA (fun a => frc (nI a) (r (6 + cl p)) (nI n) (nI k)) s y z)]) hC.1 ckX9_has (kX9_has l s (nI z)) (gw_in m_1225 rfl) (fb_nil _) (fun _ _ _ => trivial) ⟨rfl, rfl, Nat.le_of_ble_eq_true rfl, Nat.le_of_ble_eq_true rfl⟩ rfl hl.1 rfl (Nat.le_of_ble_eq_true rfl) dX9_ask_99 ⟨Nat.le_of_ble_eq_true rfl, Nat.le_of_ble_eq_true rfl⟩) ?_
                                refine lv_if_eq (tgt := 148) hx hb dX9_ask_102 (by decide) (fun c13 => ?_) (fun c13 => ?_)
                                · skip
                                  have c13 := b2i_0 c13
                                  refine lv_iconst (v := 0) hx hb dX9_ask_148 rfl ?_
                                  refine lv_iadd hx hb dX9_ask_149 ?_
                                  refine lv_istore (lv' := [(9, .int ((cnA (fun a => frc (nI a) (r (6 + cl p)) (nI n) (nI k)) s y z) + 0)), (0, .ref (o 0)), (1, .int (p)), (2, .int (s)), (3, .int ((akP r p s (10 * k + n)).1)), (4, .int ((akP r p s (10 * k + n)).2)), (5, .int (nI k)), (6, .int (nI n)), (7, .int (mxA (fun a => frc (nI a) (r (6 + cl p)) (nI n) (nI k)) s y)), (8, .int (nI y)), (10, .int (nI z))]) hx hb dX9_ask_150 hl (by decide) rfl (fun ls hl => ?_)
                                  refine lv_iinc (v := nI (z + 1)) (lv' := [(10, .int (nI (z + 1))), (9, .int ((cnA (fun a => frc (nI a) (r (6 + cl p)) (nI n) (nI k)) s y z) + 0)), (0, .ref (o 0)), (1, .int (p)), (2, .int (s)), (3, .int ((akP r p s (10 * k + n)).1)), (4, .int ((akP r p s (10 * k + n)).2)), (5, .int (nI k)), (6, .int (nI n)), (7, .int (mxA (fun a => frc (nI a) (r (6 + cl p)) (nI n) (nI k)) s y)), (8, .int (nI y))]) hx hb dX9_ask_152 hl (k := 10) rfl (inc_nI z) (by decide) rfl (fun ls hl => ?_)
                                  refine lv_goto (tgt := 78) hx hb dX9_ask_155 (by decide) ?_
                                  have e9 : cnA (fun a => frc (nI a) (r (6 + cl p)) (nI n) (nI k)) s y (z + 1) = (cnA (fun a => frc (nI a) (r (6 + cl p)) (nI n) (nI k)) s y z) + 0 := congrArg (fun q => cnA (fun a => frc (nI a) (r (6 + cl p)) (nI n) (nI k)) s y z + q) (if_neg (fun h => absurd h.1 (by rw [c13]; decide)))
                                  have hl : lv_has ls 11 [(10, .int (nI (z + 1))), (9, .int (cnA (fun a => frc (nI a) (r (6 + cl p)) (nI n) (nI k)) s y (z + 1))), (0, .ref (o 0)), (1, .int (p)), (2, .int (s)), (3, .int ((akP r p s (10 * k + n)).1)), (4, .int ((akP r p s (10 * k + n)).2)), (5, .int (nI k)), (6, .int (nI n)), (7, .int (mxA (fun a => frc (nI a) (r (6 + cl p)) (nI n) (nI k)) s y)), (8, .int (nI y))] := by rw [e9]; exact hl
                                  exact ih78 (z + 1) (by omega) (by omega) (Or.inr (by assumption)) _ _ hP hD hS _ (lv_sub hl [2, 3, 4, 5, 6, 7, 8, 9, 10, 1, 0] rfl)
                                · skip
                                  have c13 := b2i_1 c13
                                  refine lv_iload hx hb dX9_ask_105 (lv_at hl 8 rfl) ?_
                                  refine lv_aload_n hx hb dX9_ask_107 rfl (lv_at hl 0 rfl) ?_
                                  refine kget hC.1 hK (kP_app.mp hP).1 0 rfl rfl in_9 3 (by decide) (gw_in m_963 rfl) rfl dX9_ask_108 ?_
                                  refine lv_bipush (v := 6) hx hb dX9_ask_111 rfl ?_
                                  refine lv_iload_n hx hb dX9_ask_113 rfl (lv_at hl 1 rfl) ?_
                                  refine lv_iadd hx hb dX9_ask_114 ?_
                                  refine kald (v := r (6 + cl p)) hC.1 hK (kP_app.mp (kP_app.mp (kP_app.mp hP).2).2).1 0 rfl (ix_in (K := 6) (yPl_in c1 hw.n3) (by omega) (by omega)) (congrArg r (show cl (6 + p) = 6 + cl p from ix_cl (K := 6) (yPl_in c1 hw.n3) (by omega))) dX9_ask_115 ?_
                                  refine lv_iload hx hb dX9_ask_116 (lv_at hl 6 rfl) ?_
                                  refine lv_iload hx hb dX9_ask_118 (lv_at hl 5 rfl) ?_
                                  refine ro_i (run_S (As := [.int (nI y), .int (r (6 + cl p)), .int (nI n), .int (nI k)]) (rest := [.int (cnA (fun a => frc (nI a) (r (6 + cl p)) (nI n) (nI k)) s y z)]) hC.1 ckX9_forceBy (kX9_forceBy l (nI y) (r (6 + cl p)) (nI n) (nI k)) (gw_in m_1151 rfl) (fb_nil _) (fun _ _ _ => trivial) ⟨rfl, rfl, Nat.le_of_ble_eq_true rfl, Nat.le_of_ble_eq_true rfl⟩ rfl hl.1 rfl (Nat.le_of_ble_eq_true rfl) dX9_ask_120 ⟨Nat.le_of_ble_eq_true rfl, Nat.le_of_ble_eq_true rfl⟩) ?_
                                  refine lv_iload hx hb dX9_ask_123 (lv_at hl 10 rfl) ?_
                                  refine lv_aload_n hx hb dX9_ask_125 rfl (lv_at hl 0 rfl) ?_
                                  refine kget hC.1 hK (kP_app.mp hP).1 0 rfl rfl in_9 3 (by decide) (gw_in m_963 rfl) rfl dX9_ask_126 ?_
                                  refine lv_bipush (v := 6) hx hb dX9_ask_129 rfl ?_
                                  refine lv_iload_n hx hb dX9_ask_131 rfl (lv_at hl 1 rfl) ?_
                                  refine lv_iadd hx hb dX9_ask_132 ?_
                                  refine kald (v := r (6 + cl p)) hC.1 hK (kP_app.mp (kP_app.mp (kP_app.mp hP).2).2).1 0 rfl (ix_in (K := 6) (yPl_in c1 hw.n3) (by omega) (by omega)) (congrArg r (show cl (6 + p) = 6 + cl p from ix_cl (K := 6) (yPl_in c1 hw.n3) (by omega))) dX9_ask_133 ?_
                                  refine lv_iload hx hb dX9_ask_134 (lv_at hl 6 rfl) ?_
                                  refine lv_iload hx hb dX9_ask_136 (lv_at hl 5 rfl) ?_
                                  refine ro_i (run_S (As := [.int (nI z), .int (r (6 + cl p)), .int (nI n), .int (nI k)]) (rest := [.int (frc (nI y) (r (6 + cl p)) (nI n) (nI k)), .int (cnA (fun a => frc (nI a) (r (6 + cl p)) (nI n) (nI k)) s y z)]) hC.1 ckX9_forceBy (kX9_forceBy l (nI z) (r (6 + cl p)) (nI n) (nI k)) (gw_in m_1151 rfl) (fb_nil _) (fun _ _ _ => trivial) ⟨rfl, rfl, Nat.le_of_ble_eq_true rfl, Nat.le_of_ble_eq_true rfl⟩ rfl hl.1 rfl (Nat.le_of_ble_eq_true rfl) dX9_ask_138 ⟨Nat.le_of_ble_eq_true rfl, Nat.le_of_ble_eq_true rfl⟩) ?_
                                  refine lv_icmp_ne (tgt := 148) hx hb dX9_ask_141 (by decide) (fun c14 => ?_) (fun c14 => ?_)
                                  · skip
                                    refine lv_iconst (v := 0) hx hb dX9_ask_148 rfl ?_
                                    refine lv_iadd hx hb dX9_ask_149 ?_
                                    refine lv_istore (lv' := [(9, .int ((cnA (fun a => frc (nI a) (r (6 + cl p)) (nI n) (nI k)) s y z) + 0)), (0, .ref (o 0)), (1, .int (p)), (2, .int (s)), (3, .int ((akP r p s (10 * k + n)).1)), (4, .int ((akP r p s (10 * k + n)).2)), (5, .int (nI k)), (6, .int (nI n)), (7, .int (mxA (fun a => frc (nI a) (r (6 + cl p)) (nI n) (nI k)) s y)), (8, .int (nI y)), (10, .int (nI z))]) hx hb dX9_ask_150 hl (by decide) rfl (fun ls hl => ?_)
                                    refine lv_iinc (v := nI (z + 1)) (lv' := [(10, .int (nI (z + 1))), (9, .int ((cnA (fun a => frc (nI a) (r (6 + cl p)) (nI n) (nI k)) s y z) + 0)), (0, .ref (o 0)), (1, .int (p)), (2, .int (s)), (3, .int ((akP r p s (10 * k + n)).1)), (4, .int ((akP r p s (10 * k + n)).2)), (5, .int (nI k)), (6, .int (nI n)), (7, .int (mxA (fun a => frc (nI a) (r (6 + cl p)) (nI n) (nI k)) s y)), (8, .int (nI y))]) hx hb dX9_ask_152 hl (k := 10) rfl (inc_nI z) (by decide) rfl (fun ls hl => ?_)
                                    refine lv_goto (tgt := 78) hx hb dX9_ask_155 (by decide) ?_
                                    have e9 : cnA (fun a => frc (nI a) (r (6 + cl p)) (nI n) (nI k)) s y (z + 1) = (cnA (fun a => frc (nI a) (r (6 + cl p)) (nI n) (nI k)) s y z) + 0 := congrArg (fun q => cnA (fun a => frc (nI a) (r (6 + cl p)) (nI n) (nI k)) s y z + q) (if_neg (fun h => c14 h.2))
                                    have hl : lv_has ls 11 [(10, .int (nI (z + 1))), (9, .int (cnA (fun a => frc (nI a) (r (6 + cl p)) (nI n) (nI k)) s y (z + 1))), (0, .ref (o 0)), (1, .int (p)), (2, .int (s)), (3, .int ((akP r p s (10 * k + n)).1)), (4, .int ((akP r p s (10 * k + n)).2)), (5, .int (nI k)), (6, .int (nI n)), (7, .int (mxA (fun a => frc (nI a) (r (6 + cl p)) (nI n) (nI k)) s y)), (8, .int (nI y))] := by rw [e9]; exact hl
                                    exact ih78 (z + 1) (by omega) (by omega) (Or.inr (by assumption)) _ _ hP hD hS _ (lv_sub hl [2, 3, 4, 5, 6, 7, 8, 9, 10, 1, 0] rfl)
                                  · skip
                                    refine lv_iconst (v := 1) hx hb dX9_ask_144 rfl ?_
                                    refine lv_goto (tgt := 149) hx hb dX9_ask_145 (by decide) ?_
                                    refine lv_iadd hx hb dX9_ask_149 ?_
                                    refine lv_istore (lv' := [(9, .int ((cnA (fun a => frc (nI a) (r (6 + cl p)) (nI n) (nI k)) s y z) + 1)), (0, .ref (o 0)), (1, .int (p)), (2, .int (s)), (3, .int ((akP r p s (10 * k + n)).1)), (4, .int ((akP r p s (10 * k + n)).2)), (5, .int (nI k)), (6, .int (nI n)), (7, .int (mxA (fun a => frc (nI a) (r (6 + cl p)) (nI n) (nI k)) s y)), (8, .int (nI y)), (10, .int (nI z))]) hx hb dX9_ask_150 hl (by decide) rfl (fun ls hl => ?_)
                                    refine lv_iinc (v := nI (z + 1)) (lv' := [(10, .int (nI (z + 1))), (9, .int ((cnA (fun a => frc (nI a) (r (6 + cl p)) (nI n) (nI k)) s y z) + 1)), (0, .ref (o 0)), (1, .int (p)), (2, .int (s)), (3, .int ((akP r p s (10 * k + n)).1)), (4, .int ((akP r p s (10 * k + n)).2)), (5, .int (nI k)), (6, .int (nI n)), (7, .int (mxA (fun a => frc (nI a) (r (6 + cl p)) (nI n) (nI k)) s y)), (8, .int (nI y))]) hx hb dX9_ask_152 hl (k := 10) rfl (inc_nI z) (by decide) rfl (fun ls hl => ?_)
                                    refine lv_goto (tgt := 78) hx hb dX9_ask_155 (by decide) ?_
                                    have e9 : cnA (fun a => frc (nI a) (r (6 + cl p)) (nI n) (nI k)) s y (z + 1) = (cnA (fun a => frc (nI a) (r (6 + cl p)) (nI n) (nI k)) s y z) + 1 := congrArg (fun q => cnA (fun a => frc (nI a) (r (6 + cl p)) (nI n) (nI k)) s y z + q) (if_pos ⟨c13, c14⟩)
                                    have hl : lv_has ls 11 [(10, .int (nI (z + 1))), (9, .int (cnA (fun a => frc (nI a) (r (6 + cl p)) (nI n) (nI k)) s y (z + 1))), (0, .ref (o 0)), (1, .int (p)), (2, .int (s)), (3, .int ((akP r p s (10 * k + n)).1)), (4, .int ((akP r p s (10 * k + n)).2)), (5, .int (nI k)), (6, .int (nI n)), (7, .int (mxA (fun a => frc (nI a) (r (6 + cl p)) (nI n) (nI k)) s y)), (8, .int (nI y))] := by rw [e9]; exact hl
                                    exact ih78 (z + 1) (by omega) (by omega) (Or.inr (by assumption)) _ _ hP hD hS _ (lv_sub hl [2, 3, 4, 5, 6, 7, 8, 9, 10, 1, 0] rfl)
                        exact cut78 _ 0 (Nat.lt_succ_self _) (by omega) (Or.inl rfl) _ _ hP hD hS _ (lv_sub hl [2, 3, 4, 5, 6, 7, 8, 9, 10, 1, 0] rfl)
                  exact cut65 _ 0 (Nat.lt_succ_self _) (by omega) _ _ hP hD hS _ (lv_sub hl [2, 3, 4, 5, 6, 7, 8, 1, 0] rfl)
          have e4 : (if s = 0 then -1 else (akP r p s (10 * k + 1)).1) = if s = 0 then -1 else (akP r p s (10 * k)).1 := by rw [akP_0 (show (10 * k) % 10 = 0 by omega)]
          have e5 : (if s = 0 then 7 else (akP r p s (10 * k + 1)).2) = if s = 0 then 7 else (akP r p s (10 * k)).2 := by rw [akP_0 (show (10 * k) % 10 = 0 by omega)]
          have hl : lv_has ls 11 [(6, .int (1)), (0, .ref (o 0)), (1, .int (p)), (2, .int (s)), (3, .int (if s = 0 then -1 else (akP r p s (10 * k + 1)).1)), (4, .int (if s = 0 then 7 else (akP r p s (10 * k + 1)).2)), (5, .int (nI k))] := by rw [e4, e5]; exact hl
          exact cut48 _ 1 (Nat.lt_succ_self _) (by omega) (by omega) _ _ hP hD hS _ (lv_sub hl [1, 2, 3, 4, 5, 6, 0] rfl)
    have e4 : (if s = 0 then -1 else (akP r p s (10 * 0)).1) = -1 := ite_self _
    have e5 : (if s = 0 then 7 else (akP r p s (10 * 0)).2) = 7 := ite_self _
    have hl : lv_has ls 11 [(5, .int (0)), (4, .int (if s = 0 then 7 else (akP r p s (10 * 0)).2)), (3, .int (if s = 0 then -1 else (akP r p s (10 * 0)).1)), (2, .int (s)), (0, .ref (o 0)), (1, .int (p))] := by rw [e4, e5]; exact hl
    exact cut38 _ 0 (Nat.lt_succ_self _) (by omega) _ _ hP hD hS _ (lv_sub hl [4, 5, 3, 2, 1, 0] rfl)
  · skip
    have c1 := b2i_0 c1
    refine lv_aload_n hx hb dX9_ask_16 rfl (lv_at hl 0 rfl) ?_
    refine lv_bipush (v := -2) hx hb dX9_ask_17 rfl ?_
    refine rw_i (run_V (As := [.int (-2)]) (rest := []) hC.1 ckX9_bad (kX9_bad l g o ab be lm ra ta ti fa um ua hh rf (-2)) (gw_in m_1041 rfl) (fb_rw _ _ _) (va_recv hK.1 (kP_app.mp hP).1 (q0 := 0) rfl rfl) (fun U hU hW => ⟨by rw [hU]; exact (kP_app.mpr ⟨(kP_app.mp hP).1, (kP_app.mpr ⟨(kP_app.mp (kP_app.mp hP).2).1, kP_nil⟩)⟩), kK_warm hW hK, vD_sub (sbA _ (sbA _ (sb0 _))) hD⟩) ⟨rfl, rfl, Nat.le_of_ble_eq_true rfl, Nat.le_of_ble_eq_true rfl⟩ rfl hl.1 rfl (Nat.le_of_ble_eq_true rfl) dX9_ask_19 ⟨Nat.le_of_ble_eq_true rfl, Nat.le_of_ble_eq_true rfl⟩) (adr_app rfl (adr_app aW_adr rfl)) (asc2 _ _ _) (ww' := mO g o ab be lm ra ta ti fa um ua hh ++ (aW g (o 1) 3 (upd rf 0 (rf 0 + 1)) ++ (aW g (o 2) 45 r ++ (aW g (o 5) 94 tl ++ [])))) (asc2 _ _ _) hP hD hS (fun H locs hP hD hS => ?_)
    exact ret_rwi hx hb hr hlk (by simp only [c1, if_true, if_false, eq_self, Bool.false_eq_true, Bool.and_true, Bool.true_and, Bool.and_false, Bool.false_and]) (kP_eq (by simp only [c1, if_true, if_false, eq_self, Bool.false_eq_true, Bool.and_true, Bool.true_and, Bool.and_false, Bool.false_and]) hP) hS dX9_ask_22
