theorem ckX9_hardsOf : ckV yX9_hardsOf cX9_hardsOf 7 (some .int) 1 := ⟨(gw_in m_1286 rfl), (gw_in m_71 rfl), ⟨(gw_in m_1285 rfl), (gw_in m_51 rfl)⟩, by decide +kernel, by decide +kernel, by decide +kernel⟩
theorem ckX9_kindsOf : ckV yX9_kindsOf cX9_kindsOf 7 (some .int) 1 := ⟨(gw_in m_1310 rfl), (gw_in m_71 rfl), ⟨(gw_in m_1309 rfl), (gw_in m_54 rfl)⟩, by decide +kernel, by decide +kernel, by decide +kernel⟩
theorem ckX9_playersOf : ckV yX9_playersOf cX9_playersOf 7 (some .int) 1 := ⟨(gw_in m_1330 rfl), (gw_in m_71 rfl), ⟨(gw_in m_1329 rfl), (gw_in m_55 rfl)⟩, by decide +kernel, by decide +kernel, by decide +kernel⟩
def allN (p : Nat → Bool) : Nat → Bool
  | 0 => true
  | n + 1 => allN p n && p n
set_option maxHeartbeats 4000000 in
set_option maxRecDepth 100000 in
theorem kX9_hardsOf (l : Launch) (g : gG) (o : Nat → Nat) (ab be : Int64) (lm ra ta : Nat) (ti fa : Int32) (um ua : Nat) (hh : Int64) (r tl : Nat → Int32) (S : Nat) (i : Int32) (hw : Wf r) (hS0 : tl 0 = nI S) (hS6 : S ≤ 5) (hi : vp_in i 6) : Met l yX9_hardsOf (.code yX9_hardsOf cX9_hardsOf 7 (some .int) :: gw) (rmN 1) (va_Pc [.ref (o 0), .int (i)] (roPre g (mO g o ab be lm ra ta ti fa um ua hh ++ (aW g (o 2) 45 r ++ (aW g (o 5) 94 tl ++ []))))) (vp_Si (fun v => v = (setB (fun k => allN (fun n => !decide (tl (1 + 5 * n) = i) || decide (crk (r (15 + cl i)) (nI k) (tl (1 + 5 * n + 2)) (tl (1 + 5 * n + 3)) (tl (1 + 5 * n + 1)) = tl (1 + 5 * n + 4))) S) 10))) 0 0 (fun _ => False) := by
  refine met_start (by decide) (Nat.le_of_ble_eq_true rfl) ?_
  intro pp ee ss mm bl mt cd hC hpre ls hl
  obtain ⟨⟨hx, hb, hml, hown, hts⟩, hr, hlk, hnm⟩ := id hC
  have hl : lv_has ls 7 [(0, .ref (o 0)), (1, .int (i))] := hl
  obtain ⟨hP, hK⟩ := hpre
  refine lv_iconst (v := 0) hx hb dX9_hardsOf_0 rfl ?_
  refine lv_istore_n (lv' := [(2, .int (0)), (0, .ref (o 0)), (1, .int (i))]) hx hb dX9_hardsOf_1 rfl hl (by decide) rfl (fun ls hl => ?_)
  refine lv_iconst (v := 0) hx hb dX9_hardsOf_2 rfl ?_
  refine lv_istore_n (lv' := [(3, .int (0)), (2, .int (0)), (0, .ref (o 0)), (1, .int (i))]) hx hb dX9_hardsOf_3 rfl hl (by decide) rfl (fun ls hl => ?_)
  have cut4 : ∀ kk : Nat, ∀ (k : Nat), 11 - k < kk → (hk : k ≤ 10) → ∀ (ls : Array Slot), lv_has ls 7 [(0, .ref (o 0)), (1, .int (i)), (2, .int (setB (fun k => allN (fun n => !decide (tl (1 + 5 * n) = i) || decide (crk (r (15 + cl i)) (nI k) (tl (1 + 5 * n + 2)) (tl (1 + 5 * n + 3)) (tl (1 + 5 * n + 1)) = tl (1 + 5 * n + 4))) S) k)), (3, .int (nI k))] → W pp l ee (rmN 1) ss mm ([.ref (o 0), .int (i)] : List Value).toArray bl mt cd ss.heap [] 0 0 (MQ bl (vp_Si (fun v => v = (setB (fun k => allN (fun n => !decide (tl (1 + 5 * n) = i) || decide (crk (r (15 + cl i)) (nI k) (tl (1 + 5 * n + 2)) (tl (1 + 5 * n + 3)) (tl (1 + 5 * n + 1)) = tl (1 + 5 * n + 4))) S) 10))) ([.ref (o 0), .int (i)] : List Value).toArray ss 0 0 (fun _ => False)) (F0 mm 4 ls []) := by
    intro kk
    induction kk with
    | zero => intro k hmu; exact absurd hmu (Nat.not_lt_zero _)
    | succ kk ih4 =>
      intro k hmu hk ls hl
      refine lv_iload_n hx hb dX9_hardsOf_4 rfl (lv_at hl 3 rfl) ?_
      refine lv_bipush (v := 10) hx hb dX9_hardsOf_5 rfl ?_
      refine lv_icmp_ge (tgt := 137) hx hb dX9_hardsOf_7 (by decide) (fun c1 => ?_) (fun c1 => ?_)
      · skip
        have c1' := Int32.not_lt.mpr c1
        have hk9 : k = 10 := by have := lp_ge (by omega) c1; rw [show (10 : Int32).toInt = 10 from rfl] at this; omega
        subst hk9
        refine lv_iload_n hx hb dX9_hardsOf_137 rfl (lv_at hl 2 rfl) ?_
        exact ret_roi hx hb hr hlk (by rfl) dX9_hardsOf_138
      · skip
        have c1' := Int32.not_le.mp c1
        have hk9 : k < 10 := by have := lp_lt (by omega) c1; rw [show (10 : Int32).toInt = 10 from rfl] at this; omega
        refine lv_iconst (v := 1) hx hb dX9_hardsOf_10 rfl ?_
        refine lv_istore (lv' := [(4, .int (1)), (0, .ref (o 0)), (1, .int (i)), (2, .int (setB (fun k => allN (fun n => !decide (tl (1 + 5 * n) = i) || decide (crk (r (15 + cl i)) (nI k) (tl (1 + 5 * n + 2)) (tl (1 + 5 * n + 3)) (tl (1 + 5 * n + 1)) = tl (1 + 5 * n + 4))) S) k)), (3, .int (nI k))]) hx hb dX9_hardsOf_11 hl (by decide) rfl (fun ls hl => ?_)
        refine lv_iconst (v := 0) hx hb dX9_hardsOf_13 rfl ?_
        refine lv_istore (lv' := [(5, .int (0)), (4, .int (1)), (0, .ref (o 0)), (1, .int (i)), (2, .int (setB (fun k => allN (fun n => !decide (tl (1 + 5 * n) = i) || decide (crk (r (15 + cl i)) (nI k) (tl (1 + 5 * n + 2)) (tl (1 + 5 * n + 3)) (tl (1 + 5 * n + 1)) = tl (1 + 5 * n + 4))) S) k)), (3, .int (nI k))]) hx hb dX9_hardsOf_14 hl (by decide) rfl (fun ls hl => ?_)
        have cut16 : ∀ kk : Nat, ∀ (n : Nat), 7 - n < kk → (hn : n ≤ S) → ∀ (ls : Array Slot), lv_has ls 7 [(0, .ref (o 0)), (1, .int (i)), (2, .int (setB (fun k => allN (fun n => !decide (tl (1 + 5 * n) = i) || decide (crk (r (15 + cl i)) (nI k) (tl (1 + 5 * n + 2)) (tl (1 + 5 * n + 3)) (tl (1 + 5 * n + 1)) = tl (1 + 5 * n + 4))) S) k)), (3, .int (nI k)), (4, .int (b2i (allN (fun n => !decide (tl (1 + 5 * n) = i) || decide (crk (r (15 + cl i)) (nI k) (tl (1 + 5 * n + 2)) (tl (1 + 5 * n + 3)) (tl (1 + 5 * n + 1)) = tl (1 + 5 * n + 4))) n))), (5, .int (nI n))] → W pp l ee (rmN 1) ss mm ([.ref (o 0), .int (i)] : List Value).toArray bl mt cd ss.heap [] 0 0 (MQ bl (vp_Si (fun v => v = (setB (fun k => allN (fun n => !decide (tl (1 + 5 * n) = i) || decide (crk (r (15 + cl i)) (nI k) (tl (1 + 5 * n + 2)) (tl (1 + 5 * n + 3)) (tl (1 + 5 * n + 1)) = tl (1 + 5 * n + 4))) S) 10))) ([.ref (o 0), .int (i)] : List Value).toArray ss 0 0 (fun _ => False)) (F0 mm 16 ls []) := by
          intro kk
          induction kk with
          | zero => intro n hmu; exact absurd hmu (Nat.not_lt_zero _)
          | succ kk ih16 =>
            intro n hmu hn ls hl
            refine lv_iload hx hb dX9_hardsOf_16 (lv_at hl 5 rfl) ?_
            refine lv_aload_n hx hb dX9_hardsOf_18 rfl (lv_at hl 0 rfl) ?_
            refine kget hC.1 hK (kP_app.mp hP).1 0 rfl rfl in_9 6 (by decide) (gw_in m_966 rfl) rfl dX9_hardsOf_19 ?_
            refine lv_iconst (v := 0) hx hb dX9_hardsOf_22 rfl ?_
            refine kald (v := nI S) hC.1 hK (kP_app.mp (kP_app.mp (kP_app.mp hP).2).2).1 0 rfl (show vp_in (nI 0) 94 from vp_in_nI (by omega) (by omega)) ((congrArg tl (show cl 0 = 0 from by decide)).trans hS0) dX9_hardsOf_23 ?_
            refine lv_icmp_ge (tgt := 116) hx hb dX9_hardsOf_24 (by decide) (fun c2 => ?_) (fun c2 => ?_)
            · skip
              have c2' := Int32.not_lt.mpr c2
              have hn9 : S = n := by rw [nI_leI (by omega) (by omega)] at c2; omega
              subst hn9
              have hl : lv_has ls 7 [(0, .ref (o 0)), (1, .int (i)), (2, .int (setB (fun k => allN (fun n => !decide (tl (1 + 5 * n) = i) || decide (crk (r (15 + cl i)) (nI k) (tl (1 + 5 * n + 2)) (tl (1 + 5 * n + 3)) (tl (1 + 5 * n + 1)) = tl (1 + 5 * n + 4))) S) k)), (3, .int (nI k)), (4, .int (b2i (allN (fun n => !decide (tl (1 + 5 * n) = i) || decide (crk (r (15 + cl i)) (nI k) (tl (1 + 5 * n + 2)) (tl (1 + 5 * n + 3)) (tl (1 + 5 * n + 1)) = tl (1 + 5 * n + 4))) S)))] := lv_sub hl [0, 1, 2, 3, 4] rfl
              refine lv_iload_n hx hb dX9_hardsOf_116 rfl (lv_at hl 2 rfl) ?_
              refine lv_iload hx hb dX9_hardsOf_117 (lv_at hl 4 rfl) ?_
              refine lv_if_eq (tgt := 128) hx hb dX9_hardsOf_119 (by decide) (fun c3 => ?_) (fun c3 => ?_)
              · skip
                have c3 := b2i_0 c3
                refine lv_iconst (v := 0) hx hb dX9_hardsOf_128 rfl ?_
                refine lv_ior hx hb dX9_hardsOf_129 ?_
                refine top_i (x := (setB (fun k => allN (fun n => !decide (tl (1 + 5 * n) = i) || decide (crk (r (15 + cl i)) (nI k) (tl (1 + 5 * n + 2)) (tl (1 + 5 * n + 3)) (tl (1 + 5 * n + 1)) = tl (1 + 5 * n + 4))) S) k) ||| 0) (y := setB (fun k => allN (fun n => !decide (tl (1 + 5 * n) = i) || decide (crk (r (15 + cl i)) (nI k) (tl (1 + 5 * n + 2)) (tl (1 + 5 * n + 3)) (tl (1 + 5 * n + 1)) = tl (1 + 5 * n + 4))) S) (k + 1)) (setB_0 (p := (fun k => allN (fun n => !decide (tl (1 + 5 * n) = i) || decide (crk (r (15 + cl i)) (nI k) (tl (1 + 5 * n + 2)) (tl (1 + 5 * n + 3)) (tl (1 + 5 * n + 1)) = tl (1 + 5 * n + 4))) S)) c3) ?_
                refine lv_istore_n (lv' := [(2, .int (setB (fun k => allN (fun n => !decide (tl (1 + 5 * n) = i) || decide (crk (r (15 + cl i)) (nI k) (tl (1 + 5 * n + 2)) (tl (1 + 5 * n + 3)) (tl (1 + 5 * n + 1)) = tl (1 + 5 * n + 4))) S) (k + 1))), (0, .ref (o 0)), (1, .int (i)), (3, .int (nI k)), (4, .int (b2i (allN (fun n => !decide (tl (1 + 5 * n) = i) || decide (crk (r (15 + cl i)) (nI k) (tl (1 + 5 * n + 2)) (tl (1 + 5 * n + 3)) (tl (1 + 5 * n + 1)) = tl (1 + 5 * n + 4))) S)))]) hx hb dX9_hardsOf_130 rfl hl (by decide) rfl (fun ls hl => ?_)
                refine lv_iinc (v := nI (k + 1)) (lv' := [(3, .int (nI (k + 1))), (2, .int (setB (fun k => allN (fun n => !decide (tl (1 + 5 * n) = i) || decide (crk (r (15 + cl i)) (nI k) (tl (1 + 5 * n + 2)) (tl (1 + 5 * n + 3)) (tl (1 + 5 * n + 1)) = tl (1 + 5 * n + 4))) S) (k + 1))), (0, .ref (o 0)), (1, .int (i)), (4, .int (b2i (allN (fun n => !decide (tl (1 + 5 * n) = i) || decide (crk (r (15 + cl i)) (nI k) (tl (1 + 5 * n + 2)) (tl (1 + 5 * n + 3)) (tl (1 + 5 * n + 1)) = tl (1 + 5 * n + 4))) S)))]) hx hb dX9_hardsOf_131 hl (k := 3) rfl (inc_nI k) (by decide) rfl (fun ls hl => ?_)
                refine lv_goto (tgt := 4) hx hb dX9_hardsOf_134 (by decide) ?_
                exact ih4 (k + 1) (by omega) (by omega) _ (lv_sub hl [2, 3, 1, 0] rfl)
              · skip
                have c3 := b2i_1 c3
                refine lv_iconst (v := 1) hx hb dX9_hardsOf_122 rfl ?_
                refine lv_iload_n hx hb dX9_hardsOf_123 rfl (lv_at hl 3 rfl) ?_
                refine lv_ishl hx hb dX9_hardsOf_124 ?_
                refine lv_goto (tgt := 129) hx hb dX9_hardsOf_125 (by decide) ?_
                refine lv_ior hx hb dX9_hardsOf_129 ?_
                refine top_i (x := (setB (fun k => allN (fun n => !decide (tl (1 + 5 * n) = i) || decide (crk (r (15 + cl i)) (nI k) (tl (1 + 5 * n + 2)) (tl (1 + 5 * n + 3)) (tl (1 + 5 * n + 1)) = tl (1 + 5 * n + 4))) S) k) ||| (1 <<< ((nI k) &&& 31))) (y := setB (fun k => allN (fun n => !decide (tl (1 + 5 * n) = i) || decide (crk (r (15 + cl i)) (nI k) (tl (1 + 5 * n + 2)) (tl (1 + 5 * n + 3)) (tl (1 + 5 * n + 1)) = tl (1 + 5 * n + 4))) S) (k + 1)) (setB_t (p := (fun k => allN (fun n => !decide (tl (1 + 5 * n) = i) || decide (crk (r (15 + cl i)) (nI k) (tl (1 + 5 * n + 2)) (tl (1 + 5 * n + 3)) (tl (1 + 5 * n + 1)) = tl (1 + 5 * n + 4))) S)) c3) ?_
                refine lv_istore_n (lv' := [(2, .int (setB (fun k => allN (fun n => !decide (tl (1 + 5 * n) = i) || decide (crk (r (15 + cl i)) (nI k) (tl (1 + 5 * n + 2)) (tl (1 + 5 * n + 3)) (tl (1 + 5 * n + 1)) = tl (1 + 5 * n + 4))) S) (k + 1))), (0, .ref (o 0)), (1, .int (i)), (3, .int (nI k)), (4, .int (b2i (allN (fun n => !decide (tl (1 + 5 * n) = i) || decide (crk (r (15 + cl i)) (nI k) (tl (1 + 5 * n + 2)) (tl (1 + 5 * n + 3)) (tl (1 + 5 * n + 1)) = tl (1 + 5 * n + 4))) S)))]) hx hb dX9_hardsOf_130 rfl hl (by decide) rfl (fun ls hl => ?_)
                refine lv_iinc (v := nI (k + 1)) (lv' := [(3, .int (nI (k + 1))), (2, .int (setB (fun k => allN (fun n => !decide (tl (1 + 5 * n) = i) || decide (crk (r (15 + cl i)) (nI k) (tl (1 + 5 * n + 2)) (tl (1 + 5 * n + 3)) (tl (1 + 5 * n + 1)) = tl (1 + 5 * n + 4))) S) (k + 1))), (0, .ref (o 0)), (1, .int (i)), (4, .int (b2i (allN (fun n => !decide (tl (1 + 5 * n) = i) || decide (crk (r (15 + cl i)) (nI k) (tl (1 + 5 * n + 2)) (tl (1 + 5 * n + 3)) (tl (1 + 5 * n + 1)) = tl (1 + 5 * n + 4))) S)))]) hx hb dX9_hardsOf_131 hl (k := 3) rfl (inc_nI k) (by decide) rfl (fun ls hl => ?_)
                refine lv_goto (tgt := 4) hx hb dX9_hardsOf_134 (by decide) ?_
                exact ih4 (k + 1) (by omega) (by omega) _ (lv_sub hl [2, 3, 1, 0] rfl)
            · skip
              have c2' := Int32.not_le.mp c2
              have hn9 : n < S := by rw [nI_leI (by omega) (by omega)] at c2; omega
              refine lv_iconst (v := 1) hx hb dX9_hardsOf_27 rfl ?_
              refine lv_iconst (v := 5) hx hb dX9_hardsOf_28 rfl ?_
              refine lv_iload hx hb dX9_hardsOf_29 (lv_at hl 5 rfl) ?_
              refine lv_imul hx hb dX9_hardsOf_31 ?_
              refine top_i (x := 5 * (nI n)) (y := nI (5 * n)) (show nI 5 * nI n = _ from pk_mul 5 n) ?_
              refine lv_iadd hx hb dX9_hardsOf_32 ?_
              refine top_i (x := 1 + (nI (5 * n))) (y := nI (1 + 5 * n)) (show nI 1 + nI (5 * n) = _ from nI_add 1 (5 * n)) ?_
              refine lv_istore (lv' := [(6, .int (nI (1 + 5 * n))), (0, .ref (o 0)), (1, .int (i)), (2, .int (setB (fun k => allN (fun n => !decide (tl (1 + 5 * n) = i) || decide (crk (r (15 + cl i)) (nI k) (tl (1 + 5 * n + 2)) (tl (1 + 5 * n + 3)) (tl (1 + 5 * n + 1)) = tl (1 + 5 * n + 4))) S) k)), (3, .int (nI k)), (4, .int (b2i (allN (fun n => !decide (tl (1 + 5 * n) = i) || decide (crk (r (15 + cl i)) (nI k) (tl (1 + 5 * n + 2)) (tl (1 + 5 * n + 3)) (tl (1 + 5 * n + 1)) = tl (1 + 5 * n + 4))) n))), (5, .int (nI n))]) hx hb dX9_hardsOf_33 hl (by decide) rfl (fun ls hl => ?_)
              refine lv_iload hx hb dX9_hardsOf_35 (lv_at hl 5 rfl) ?_
              refine lv_if_eq (tgt := 107) hx hb dX9_hardsOf_37 (by decide) (fun c4 => ?_) (fun c4 => ?_)
              · skip
                have c4 := b2i_0 c4
                refine lv_iconst (v := 0) hx hb dX9_hardsOf_107 rfl ?_
                refine lv_istore (lv' := [(4, .int (0)), (6, .int (nI (1 + 5 * n))), (0, .ref (o 0)), (1, .int (i)), (2, .int (setB (fun k => allN (fun n => !decide (tl (1 + 5 * n) = i) || decide (crk (r (15 + cl i)) (nI k) (tl (1 + 5 * n + 2)) (tl (1 + 5 * n + 3)) (tl (1 + 5 * n + 1)) = tl (1 + 5 * n + 4))) S) k)), (3, .int (nI k)), (5, .int (nI n))]) hx hb dX9_hardsOf_108 hl (by decide) rfl (fun ls hl => ?_)
                refine lv_iinc (v := nI (n + 1)) (lv' := [(5, .int (nI (n + 1))), (4, .int (0)), (6, .int (nI (1 + 5 * n))), (0, .ref (o 0)), (1, .int (i)), (2, .int (setB (fun k => allN (fun n => !decide (tl (1 + 5 * n) = i) || decide (crk (r (15 + cl i)) (nI k) (tl (1 + 5 * n + 2)) (tl (1 + 5 * n + 3)) (tl (1 + 5 * n + 1)) = tl (1 + 5 * n + 4))) S) k)), (3, .int (nI k))]) hx hb dX9_hardsOf_110 hl (k := 6) rfl (inc_nI n) (by decide) rfl (fun ls hl => ?_)
                refine lv_goto (tgt := 16) hx hb dX9_hardsOf_113 (by decide) ?_
                have e9 : b2i (allN (fun n => !decide (tl (1 + 5 * n) = i) || decide (crk (r (15 + cl i)) (nI k) (tl (1 + 5 * n + 2)) (tl (1 + 5 * n + 3)) (tl (1 + 5 * n + 1)) = tl (1 + 5 * n + 4))) (n + 1)) = 0 := by simp [allN, b2i, hn, c2, c2', c4]
                have hl : lv_has ls 7 [(5, .int (nI (n + 1))), (4, .int (b2i (allN (fun n => !decide (tl (1 + 5 * n) = i) || decide (crk (r (15 + cl i)) (nI k) (tl (1 + 5 * n + 2)) (tl (1 + 5 * n + 3)) (tl (1 + 5 * n + 1)) = tl (1 + 5 * n + 4))) (n + 1)))), (6, .int (nI (1 + 5 * n))), (0, .ref (o 0)), (1, .int (i)), (2, .int (setB (fun k => allN (fun n => !decide (tl (1 + 5 * n) = i) || decide (crk (r (15 + cl i)) (nI k) (tl (1 + 5 * n + 2)) (tl (1 + 5 * n + 3)) (tl (1 + 5 * n + 1)) = tl (1 + 5 * n + 4))) S) k)), (3, .int (nI k))] := by rw [e9]; exact hl
                exact ih16 (n + 1) (by omega) (by omega) _ (lv_sub hl [3, 4, 5, 6, 1, 0] rfl)
              · skip
                have c4 := b2i_1 c4
                refine lv_aload_n hx hb dX9_hardsOf_40 rfl (lv_at hl 1 rfl) ?_
                refine kget hC.1 hK (kP_app.mp hP).1 0 rfl rfl in_9 6 (by decide) (gw_in m_966 rfl) rfl dX9_hardsOf_41 ?_
                refine lv_iload hx hb dX9_hardsOf_44 (lv_at hl 0 rfl) ?_
                refine kald (v := tl (1 + 5 * n)) hC.1 hK (kP_app.mp (kP_app.mp (kP_app.mp hP).2).2).1 0 rfl (vp_in_nI (by omega) (by omega)) (by rw [cl_nI (by omega)]) dX9_hardsOf_46 ?_
                refine lv_iload_n hx hb dX9_hardsOf_47 rfl (lv_at hl 2 rfl) ?_
                refine lv_icmp_ne (tgt := 103) hx hb dX9_hardsOf_48 (by decide) (fun c5 => ?_) (fun c5 => ?_)
                · skip
                  refine lv_iconst (v := 1) hx hb dX9_hardsOf_103 rfl ?_
                  refine lv_goto (tgt := 108) hx hb dX9_hardsOf_104 (by decide) ?_
                  refine lv_istore (lv' := [(4, .int (1)), (6, .int (nI (1 + 5 * n))), (0, .ref (o 0)), (1, .int (i)), (2, .int (setB (fun k => allN (fun n => !decide (tl (1 + 5 * n) = i) || decide (crk (r (15 + cl i)) (nI k) (tl (1 + 5 * n + 2)) (tl (1 + 5 * n + 3)) (tl (1 + 5 * n + 1)) = tl (1 + 5 * n + 4))) S) k)), (3, .int (nI k)), (5, .int (nI n))]) hx hb dX9_hardsOf_108 hl (by decide) rfl (fun ls hl => ?_)
                  refine lv_iinc (v := nI (n + 1)) (lv' := [(5, .int (nI (n + 1))), (4, .int (1)), (6, .int (nI (1 + 5 * n))), (0, .ref (o 0)), (1, .int (i)), (2, .int (setB (fun k => allN (fun n => !decide (tl (1 + 5 * n) = i) || decide (crk (r (15 + cl i)) (nI k) (tl (1 + 5 * n + 2)) (tl (1 + 5 * n + 3)) (tl (1 + 5 * n + 1)) = tl (1 + 5 * n + 4))) S) k)), (3, .int (nI k))]) hx hb dX9_hardsOf_110 hl (k := 6) rfl (inc_nI n) (by decide) rfl (fun ls hl => ?_)
                  refine lv_goto (tgt := 16) hx hb dX9_hardsOf_113 (by decide) ?_
                  have e9 : b2i (allN (fun n => !decide (tl (1 + 5 * n) = i) || decide (crk (r (15 + cl i)) (nI k) (tl (1 + 5 * n + 2)) (tl (1 + 5 * n + 3)) (tl (1 + 5 * n + 1)) = tl (1 + 5 * n + 4))) (n + 1)) = 1 := by simp [allN, b2i, hn, c2, c2', c4, c5]
                  have hl : lv_has ls 7 [(5, .int (nI (n + 1))), (4, .int (b2i (allN (fun n => !decide (tl (1 + 5 * n) = i) || decide (crk (r (15 + cl i)) (nI k) (tl (1 + 5 * n + 2)) (tl (1 + 5 * n + 3)) (tl (1 + 5 * n + 1)) = tl (1 + 5 * n + 4))) (n + 1)))), (6, .int (nI (1 + 5 * n))), (0, .ref (o 0)), (1, .int (i)), (2, .int (setB (fun k => allN (fun n => !decide (tl (1 + 5 * n) = i) || decide (crk (r (15 + cl i)) (nI k) (tl (1 + 5 * n + 2)) (tl (1 + 5 * n + 3)) (tl (1 + 5 * n + 1)) = tl (1 + 5 * n + 4))) S) k)), (3, .int (nI k))] := by rw [e9]; exact hl
                  exact ih16 (n + 1) (by omega) (by omega) _ (lv_sub hl [3, 4, 5, 6, 1, 0] rfl)
                · skip
                  refine lv_aload_n hx hb dX9_hardsOf_51 rfl (lv_at hl 1 rfl) ?_
                  refine kget hC.1 hK (kP_app.mp hP).1 0 rfl rfl in_9 3 (by decide) (gw_in m_963 rfl) rfl dX9_hardsOf_52 ?_
                  refine lv_bipush (v := 15) hx hb dX9_hardsOf_55 rfl ?_
                  refine lv_iload_n hx hb dX9_hardsOf_57 rfl (lv_at hl 2 rfl) ?_
                  refine lv_iadd hx hb dX9_hardsOf_58 ?_
                  refine kald (v := r (15 + cl i)) hC.1 hK (kP_app.mp (kP_app.mp hP).2).1 0 rfl (ix_in (K := 15) hi (by omega) (by omega)) (congrArg r (show cl (15 + i) = 15 + cl i from ix_cl (K := 15) hi (by omega))) dX9_hardsOf_59 ?_
                  refine lv_iload_n hx hb dX9_hardsOf_60 rfl (lv_at hl 4 rfl) ?_
                  refine lv_aload_n hx hb dX9_hardsOf_61 rfl (lv_at hl 1 rfl) ?_
                  refine kget hC.1 hK (kP_app.mp hP).1 0 rfl rfl in_9 6 (by decide) (gw_in m_966 rfl) rfl dX9_hardsOf_62 ?_
                  refine lv_iload hx hb dX9_hardsOf_65 (lv_at hl 0 rfl) ?_
                  refine lv_iconst (v := 2) hx hb dX9_hardsOf_67 rfl ?_
                  refine lv_iadd hx hb dX9_hardsOf_68 ?_
                  refine top_i (x := (nI (1 + 5 * n)) + 2) (y := nI (1 + 5 * n + 2)) (nI_add _ 2) ?_
                  refine kald (v := tl (1 + 5 * n + 2)) hC.1 hK (kP_app.mp (kP_app.mp (kP_app.mp hP).2).2).1 0 rfl (vp_in_nI (by omega) (by omega)) (by rw [cl_nI (by omega)]) dX9_hardsOf_69 ?_
                  refine lv_aload_n hx hb dX9_hardsOf_70 rfl (lv_at hl 1 rfl) ?_
                  refine kget hC.1 hK (kP_app.mp hP).1 0 rfl rfl in_9 6 (by decide) (gw_in m_966 rfl) rfl dX9_hardsOf_71 ?_
                  refine lv_iload hx hb dX9_hardsOf_74 (lv_at hl 0 rfl) ?_
                  refine lv_iconst (v := 3) hx hb dX9_hardsOf_76 rfl ?_
                  refine lv_iadd hx hb dX9_hardsOf_77 ?_
                  refine top_i (x := (nI (1 + 5 * n)) + 3) (y := nI (1 + 5 * n + 3)) (nI_add _ 3) ?_
                  refine kald (v := tl (1 + 5 * n + 3)) hC.1 hK (kP_app.mp (kP_app.mp (kP_app.mp hP).2).2).1 0 rfl (vp_in_nI (by omega) (by omega)) (by rw [cl_nI (by omega)]) dX9_hardsOf_78 ?_
                  refine lv_aload_n hx hb dX9_hardsOf_79 rfl (lv_at hl 1 rfl) ?_
                  refine kget hC.1 hK (kP_app.mp hP).1 0 rfl rfl in_9 6 (by decide) (gw_in m_966 rfl) rfl dX9_hardsOf_80 ?_
                  refine lv_iload hx hb dX9_hardsOf_83 (lv_at hl 0 rfl) ?_
                  refine lv_iconst (v := 1) hx hb dX9_hardsOf_85 rfl ?_
                  refine lv_iadd hx hb dX9_hardsOf_86 ?_
                  refine top_i (x := (nI (1 + 5 * n)) + 1) (y := nI (1 + 5 * n + 1)) (nI_add _ 1) ?_
                  refine kald (v := tl (1 + 5 * n + 1)) hC.1 hK (kP_app.mp (kP_app.mp (kP_app.mp hP).2).2).1 0 rfl (vp_in_nI (by omega) (by omega)) (by rw [cl_nI (by omega)]) dX9_hardsOf_87 ?_
                  refine ro_i (run_S (As := [.int (r (15 + cl i)), .int (nI k), .int (tl (1 + 5 * n + 2)), .int (tl (1 + 5 * n + 3)), .int (tl (1 + 5 * n + 1))]) (rest := []) hC.1 ckX9_cracksBy (kX9_cracksBy l (r (15 + cl i)) (nI k) (tl (1 + 5 * n + 2)) (tl (1 + 5 * n + 3)) (tl (1 + 5 * n + 1))) (gw_in m_1157 rfl) (fb_nil _) (fun _ _ _ => trivial) ⟨rfl, rfl, Nat.le_of_ble_eq_true rfl, Nat.le_of_ble_eq_true rfl⟩ rfl hl.1 rfl (Nat.le_of_ble_eq_true rfl) dX9_hardsOf_88 ⟨Nat.le_of_ble_eq_true rfl, Nat.le_of_ble_eq_true rfl⟩) ?_
                  refine lv_aload_n hx hb dX9_hardsOf_91 rfl (lv_at hl 1 rfl) ?_
                  refine kget hC.1 hK (kP_app.mp hP).1 0 rfl rfl in_9 6 (by decide) (gw_in m_966 rfl) rfl dX9_hardsOf_92 ?_
                  refine lv_iload hx hb dX9_hardsOf_95 (lv_at hl 0 rfl) ?_
                  refine lv_iconst (v := 4) hx hb dX9_hardsOf_97 rfl ?_
                  refine lv_iadd hx hb dX9_hardsOf_98 ?_
                  refine top_i (x := (nI (1 + 5 * n)) + 4) (y := nI (1 + 5 * n + 4)) (nI_add _ 4) ?_
                  refine kald (v := tl (1 + 5 * n + 4)) hC.1 hK (kP_app.mp (kP_app.mp (kP_app.mp hP).2).2).1 0 rfl (vp_in_nI (by omega) (by omega)) (by rw [cl_nI (by omega)]) dX9_hardsOf_99 ?_
                  refine lv_icmp_ne (tgt := 107) hx hb dX9_hardsOf_100 (by decide) (fun c6 => ?_) (fun c6 => ?_)
                  · skip
                    refine lv_iconst (v := 0) hx hb dX9_hardsOf_107 rfl ?_
                    refine lv_istore (lv' := [(4, .int (0)), (6, .int (nI (1 + 5 * n))), (0, .ref (o 0)), (1, .int (i)), (2, .int (setB (fun k => allN (fun n => !decide (tl (1 + 5 * n) = i) || decide (crk (r (15 + cl i)) (nI k) (tl (1 + 5 * n + 2)) (tl (1 + 5 * n + 3)) (tl (1 + 5 * n + 1)) = tl (1 + 5 * n + 4))) S) k)), (3, .int (nI k)), (5, .int (nI n))]) hx hb dX9_hardsOf_108 hl (by decide) rfl (fun ls hl => ?_)
                    refine lv_iinc (v := nI (n + 1)) (lv' := [(5, .int (nI (n + 1))), (4, .int (0)), (6, .int (nI (1 + 5 * n))), (0, .ref (o 0)), (1, .int (i)), (2, .int (setB (fun k => allN (fun n => !decide (tl (1 + 5 * n) = i) || decide (crk (r (15 + cl i)) (nI k) (tl (1 + 5 * n + 2)) (tl (1 + 5 * n + 3)) (tl (1 + 5 * n + 1)) = tl (1 + 5 * n + 4))) S) k)), (3, .int (nI k))]) hx hb dX9_hardsOf_110 hl (k := 6) rfl (inc_nI n) (by decide) rfl (fun ls hl => ?_)
                    refine lv_goto (tgt := 16) hx hb dX9_hardsOf_113 (by decide) ?_
                    have e9 : b2i (allN (fun n => !decide (tl (1 + 5 * n) = i) || decide (crk (r (15 + cl i)) (nI k) (tl (1 + 5 * n + 2)) (tl (1 + 5 * n + 3)) (tl (1 + 5 * n + 1)) = tl (1 + 5 * n + 4))) (n + 1)) = 0 := by simp [allN, b2i, hn, c2, c2', c4, c5, c6]
                    have hl : lv_has ls 7 [(5, .int (nI (n + 1))), (4, .int (b2i (allN (fun n => !decide (tl (1 + 5 * n) = i) || decide (crk (r (15 + cl i)) (nI k) (tl (1 + 5 * n + 2)) (tl (1 + 5 * n + 3)) (tl (1 + 5 * n + 1)) = tl (1 + 5 * n + 4))) (n + 1)))), (6, .int (nI (1 + 5 * n))), (0, .ref (o 0)), (1, .int (i)), (2, .int (setB (fun k => allN (fun n => !decide (tl (1 + 5 * n) = i) || decide (crk (r (15 + cl i)) (nI k) (tl (1 + 5 * n + 2)) (tl (1 + 5 * n + 3)) (tl (1 + 5 * n + 1)) = tl (1 + 5 * n + 4))) S) k)), (3, .int (nI k))] := by rw [e9]; exact hl
                    exact ih16 (n + 1) (by omega) (by omega) _ (lv_sub hl [3, 4, 5, 6, 1, 0] rfl)
                  · skip
                    refine lv_iconst (v := 1) hx hb dX9_hardsOf_103 rfl ?_
                    refine lv_goto (tgt := 108) hx hb dX9_hardsOf_104 (by decide) ?_
                    refine lv_istore (lv' := [(4, .int (1)), (6, .int (nI (1 + 5 * n))), (0, .ref (o 0)), (1, .int (i)), (2, .int (setB (fun k => allN (fun n => !decide (tl (1 + 5 * n) = i) || decide (crk (r (15 + cl i)) (nI k) (tl (1 + 5 * n + 2)) (tl (1 + 5 * n + 3)) (tl (1 + 5 * n + 1)) = tl (1 + 5 * n + 4))) S) k)), (3, .int (nI k)), (5, .int (nI n))]) hx hb dX9_hardsOf_108 hl (by decide) rfl (fun ls hl => ?_)
                    refine lv_iinc (v := nI (n + 1)) (lv' := [(5, .int (nI (n + 1))), (4, .int (1)), (6, .int (nI (1 + 5 * n))), (0, .ref (o 0)), (1, .int (i)), (2, .int (setB (fun k => allN (fun n => !decide (tl (1 + 5 * n) = i) || decide (crk (r (15 + cl i)) (nI k) (tl (1 + 5 * n + 2)) (tl (1 + 5 * n + 3)) (tl (1 + 5 * n + 1)) = tl (1 + 5 * n + 4))) S) k)), (3, .int (nI k))]) hx hb dX9_hardsOf_110 hl (k := 6) rfl (inc_nI n) (by decide) rfl (fun ls hl => ?_)
                    refine lv_goto (tgt := 16) hx hb dX9_hardsOf_113 (by decide) ?_
                    have e9 : b2i (allN (fun n => !decide (tl (1 + 5 * n) = i) || decide (crk (r (15 + cl i)) (nI k) (tl (1 + 5 * n + 2)) (tl (1 + 5 * n + 3)) (tl (1 + 5 * n + 1)) = tl (1 + 5 * n + 4))) (n + 1)) = 1 := by simp [allN, b2i, hn, c2, c2', c4, c5, c6]
                    have hl : lv_has ls 7 [(5, .int (nI (n + 1))), (4, .int (b2i (allN (fun n => !decide (tl (1 + 5 * n) = i) || decide (crk (r (15 + cl i)) (nI k) (tl (1 + 5 * n + 2)) (tl (1 + 5 * n + 3)) (tl (1 + 5 * n + 1)) = tl (1 + 5 * n + 4))) (n + 1)))), (6, .int (nI (1 + 5 * n))), (0, .ref (o 0)), (1, .int (i)), (2, .int (setB (fun k => allN (fun n => !decide (tl (1 + 5 * n) = i) || decide (crk (r (15 + cl i)) (nI k) (tl (1 + 5 * n + 2)) (tl (1 + 5 * n + 3)) (tl (1 + 5 * n + 1)) = tl (1 + 5 * n + 4))) S) k)), (3, .int (nI k))] := by rw [e9]; exact hl
                    exact ih16 (n + 1) (by omega) (by omega) _ (lv_sub hl [3, 4, 5, 6, 1, 0] rfl)
        exact cut16 _ 0 (Nat.lt_succ_self _) (by omega) _ (lv_sub hl [2, 3, 4, 5, 1, 0] rfl)
  exact cut4 _ 0 (Nat.lt_succ_self _) (by omega) _ (lv_sub hl [2, 3, 1, 0] rfl)
set_option maxHeartbeats 4000000 in
set_option maxRecDepth 100000 in
theorem kX9_kindsOf (l : Launch) (g : gG) (o : Nat → Nat) (ab be : Int64) (lm ra ta : Nat) (ti fa : Int32) (um ua : Nat) (hh : Int64) (r tl : Nat → Int32) (S : Nat) (i : Int32) (hw : Wf r) (hS0 : tl 26 = nI S) (hS6 : S ≤ 6) : Met l yX9_kindsOf (.code yX9_kindsOf cX9_kindsOf 7 (some .int) :: gw) (rmN 1) (va_Pc [.ref (o 0), .int (i)] (roPre g (mO g o ab be lm ra ta ti fa um ua hh ++ (aW g (o 2) 45 r ++ (aW g (o 5) 94 tl ++ []))))) (vp_Si (fun v => v = (setB (fun k => allN (fun n => !decide (tl (27 + 6 * n) = i) || decide (crk (nI k) (tl (27 + 6 * n + 1)) (tl (27 + 6 * n + 3)) (tl (27 + 6 * n + 4)) (tl (27 + 6 * n + 2)) = tl (27 + 6 * n + 5))) S) 6))) 0 0 (fun _ => False) := by
  refine met_start (by decide) (Nat.le_of_ble_eq_true rfl) ?_
  intro pp ee ss mm bl mt cd hC hpre ls hl
  obtain ⟨⟨hx, hb, hml, hown, hts⟩, hr, hlk, hnm⟩ := id hC
  have hl : lv_has ls 7 [(0, .ref (o 0)), (1, .int (i))] := hl
  obtain ⟨hP, hK⟩ := hpre
  refine lv_iconst (v := 0) hx hb dX9_kindsOf_0 rfl ?_
  refine lv_istore_n (lv' := [(2, .int (0)), (0, .ref (o 0)), (1, .int (i))]) hx hb dX9_kindsOf_1 rfl hl (by decide) rfl (fun ls hl => ?_)
  refine lv_iconst (v := 0) hx hb dX9_kindsOf_2 rfl ?_
  refine lv_istore_n (lv' := [(3, .int (0)), (2, .int (0)), (0, .ref (o 0)), (1, .int (i))]) hx hb dX9_kindsOf_3 rfl hl (by decide) rfl (fun ls hl => ?_)
  have cut4 : ∀ kk : Nat, ∀ (k : Nat), 7 - k < kk → (hk : k ≤ 6) → ∀ (ls : Array Slot), lv_has ls 7 [(0, .ref (o 0)), (1, .int (i)), (2, .int (setB (fun k => allN (fun n => !decide (tl (27 + 6 * n) = i) || decide (crk (nI k) (tl (27 + 6 * n + 1)) (tl (27 + 6 * n + 3)) (tl (27 + 6 * n + 4)) (tl (27 + 6 * n + 2)) = tl (27 + 6 * n + 5))) S) k)), (3, .int (nI k))] → W pp l ee (rmN 1) ss mm ([.ref (o 0), .int (i)] : List Value).toArray bl mt cd ss.heap [] 0 0 (MQ bl (vp_Si (fun v => v = (setB (fun k => allN (fun n => !decide (tl (27 + 6 * n) = i) || decide (crk (nI k) (tl (27 + 6 * n + 1)) (tl (27 + 6 * n + 3)) (tl (27 + 6 * n + 4)) (tl (27 + 6 * n + 2)) = tl (27 + 6 * n + 5))) S) 6))) ([.ref (o 0), .int (i)] : List Value).toArray ss 0 0 (fun _ => False)) (F0 mm 4 ls []) := by
    intro kk
    induction kk with
    | zero => intro k hmu; exact absurd hmu (Nat.not_lt_zero _)
    | succ kk ih4 =>
      intro k hmu hk ls hl
      refine lv_iload_n hx hb dX9_kindsOf_4 rfl (lv_at hl 3 rfl) ?_
      refine lv_bipush (v := 6) hx hb dX9_kindsOf_5 rfl ?_
      refine lv_icmp_ge (tgt := 140) hx hb dX9_kindsOf_7 (by decide) (fun c1 => ?_) (fun c1 => ?_)
      · skip
        have c1' := Int32.not_lt.mpr c1
        have hk9 : k = 6 := by have := lp_ge (by omega) c1; rw [show (6 : Int32).toInt = 6 from rfl] at this; omega
        subst hk9
        refine lv_iload_n hx hb dX9_kindsOf_140 rfl (lv_at hl 2 rfl) ?_
        exact ret_roi hx hb hr hlk (by rfl) dX9_kindsOf_141
      · skip
        have c1' := Int32.not_le.mp c1
        have hk9 : k < 6 := by have := lp_lt (by omega) c1; rw [show (6 : Int32).toInt = 6 from rfl] at this; omega
        refine lv_iconst (v := 1) hx hb dX9_kindsOf_10 rfl ?_
        refine lv_istore (lv' := [(4, .int (1)), (0, .ref (o 0)), (1, .int (i)), (2, .int (setB (fun k => allN (fun n => !decide (tl (27 + 6 * n) = i) || decide (crk (nI k) (tl (27 + 6 * n + 1)) (tl (27 + 6 * n + 3)) (tl (27 + 6 * n + 4)) (tl (27 + 6 * n + 2)) = tl (27 + 6 * n + 5))) S) k)), (3, .int (nI k))]) hx hb dX9_kindsOf_11 hl (by decide) rfl (fun ls hl => ?_)
        refine lv_iconst (v := 0) hx hb dX9_kindsOf_13 rfl ?_
        refine lv_istore (lv' := [(5, .int (0)), (4, .int (1)), (0, .ref (o 0)), (1, .int (i)), (2, .int (setB (fun k => allN (fun n => !decide (tl (27 + 6 * n) = i) || decide (crk (nI k) (tl (27 + 6 * n + 1)) (tl (27 + 6 * n + 3)) (tl (27 + 6 * n + 4)) (tl (27 + 6 * n + 2)) = tl (27 + 6 * n + 5))) S) k)), (3, .int (nI k))]) hx hb dX9_kindsOf_14 hl (by decide) rfl (fun ls hl => ?_)
        have cut16 : ∀ kk : Nat, ∀ (n : Nat), 7 - n < kk → (hn : n ≤ S) → ∀ (ls : Array Slot), lv_has ls 7 [(0, .ref (o 0)), (1, .int (i)), (2, .int (setB (fun k => allN (fun n => !decide (tl (27 + 6 * n) = i) || decide (crk (nI k) (tl (27 + 6 * n + 1)) (tl (27 + 6 * n + 3)) (tl (27 + 6 * n + 4)) (tl (27 + 6 * n + 2)) = tl (27 + 6 * n + 5))) S) k)), (3, .int (nI k)), (4, .int (b2i (allN (fun n => !decide (tl (27 + 6 * n) = i) || decide (crk (nI k) (tl (27 + 6 * n + 1)) (tl (27 + 6 * n + 3)) (tl (27 + 6 * n + 4)) (tl (27 + 6 * n + 2)) = tl (27 + 6 * n + 5))) n))), (5, .int (nI n))] → W pp l ee (rmN 1) ss mm ([.ref (o 0), .int (i)] : List Value).toArray bl mt cd ss.heap [] 0 0 (MQ bl (vp_Si (fun v => v = (setB (fun k => allN (fun n => !decide (tl (27 + 6 * n) = i) || decide (crk (nI k) (tl (27 + 6 * n + 1)) (tl (27 + 6 * n + 3)) (tl (27 + 6 * n + 4)) (tl (27 + 6 * n + 2)) = tl (27 + 6 * n + 5))) S) 6))) ([.ref (o 0), .int (i)] : List Value).toArray ss 0 0 (fun _ => False)) (F0 mm 16 ls []) := by
          intro kk
          induction kk with
          | zero => intro n hmu; exact absurd hmu (Nat.not_lt_zero _)
          | succ kk ih16 =>
            intro n hmu hn ls hl
            refine lv_iload hx hb dX9_kindsOf_16 (lv_at hl 5 rfl) ?_
            refine lv_aload_n hx hb dX9_kindsOf_18 rfl (lv_at hl 0 rfl) ?_
            refine kget hC.1 hK (kP_app.mp hP).1 0 rfl rfl in_9 6 (by decide) (gw_in m_966 rfl) rfl dX9_kindsOf_19 ?_
            refine lv_bipush (v := 26) hx hb dX9_kindsOf_22 rfl ?_
            refine kald (v := nI S) hC.1 hK (kP_app.mp (kP_app.mp (kP_app.mp hP).2).2).1 0 rfl (show vp_in (nI 26) 94 from vp_in_nI (by omega) (by omega)) ((congrArg tl (show cl 26 = 26 from by decide)).trans hS0) dX9_kindsOf_24 ?_
            refine lv_icmp_ge (tgt := 119) hx hb dX9_kindsOf_25 (by decide) (fun c2 => ?_) (fun c2 => ?_)
            · skip
              have c2' := Int32.not_lt.mpr c2
              have hn9 : S = n := by rw [nI_leI (by omega) (by omega)] at c2; omega
              subst hn9
              have hl : lv_has ls 7 [(0, .ref (o 0)), (1, .int (i)), (2, .int (setB (fun k => allN (fun n => !decide (tl (27 + 6 * n) = i) || decide (crk (nI k) (tl (27 + 6 * n + 1)) (tl (27 + 6 * n + 3)) (tl (27 + 6 * n + 4)) (tl (27 + 6 * n + 2)) = tl (27 + 6 * n + 5))) S) k)), (3, .int (nI k)), (4, .int (b2i (allN (fun n => !decide (tl (27 + 6 * n) = i) || decide (crk (nI k) (tl (27 + 6 * n + 1)) (tl (27 + 6 * n + 3)) (tl (27 + 6 * n + 4)) (tl (27 + 6 * n + 2)) = tl (27 + 6 * n + 5))) S)))] := lv_sub hl [0, 1, 2, 3, 4] rfl
              refine lv_iload_n hx hb dX9_kindsOf_119 rfl (lv_at hl 2 rfl) ?_
              refine lv_iload hx hb dX9_kindsOf_120 (lv_at hl 4 rfl) ?_
              refine lv_if_eq (tgt := 131) hx hb dX9_kindsOf_122 (by decide) (fun c3 => ?_) (fun c3 => ?_)
              · skip
                have c3 := b2i_0 c3
                refine lv_iconst (v := 0) hx hb dX9_kindsOf_131 rfl ?_
                refine lv_ior hx hb dX9_kindsOf_132 ?_
                refine top_i (x := (setB (fun k => allN (fun n => !decide (tl (27 + 6 * n) = i) || decide (crk (nI k) (tl (27 + 6 * n + 1)) (tl (27 + 6 * n + 3)) (tl (27 + 6 * n + 4)) (tl (27 + 6 * n + 2)) = tl (27 + 6 * n + 5))) S) k) ||| 0) (y := setB (fun k => allN (fun n => !decide (tl (27 + 6 * n) = i) || decide (crk (nI k) (tl (27 + 6 * n + 1)) (tl (27 + 6 * n + 3)) (tl (27 + 6 * n + 4)) (tl (27 + 6 * n + 2)) = tl (27 + 6 * n + 5))) S) (k + 1)) (setB_0 (p := (fun k => allN (fun n => !decide (tl (27 + 6 * n) = i) || decide (crk (nI k) (tl (27 + 6 * n + 1)) (tl (27 + 6 * n + 3)) (tl (27 + 6 * n + 4)) (tl (27 + 6 * n + 2)) = tl (27 + 6 * n + 5))) S)) c3) ?_
                refine lv_istore_n (lv' := [(2, .int (setB (fun k => allN (fun n => !decide (tl (27 + 6 * n) = i) || decide (crk (nI k) (tl (27 + 6 * n + 1)) (tl (27 + 6 * n + 3)) (tl (27 + 6 * n + 4)) (tl (27 + 6 * n + 2)) = tl (27 + 6 * n + 5))) S) (k + 1))), (0, .ref (o 0)), (1, .int (i)), (3, .int (nI k)), (4, .int (b2i (allN (fun n => !decide (tl (27 + 6 * n) = i) || decide (crk (nI k) (tl (27 + 6 * n + 1)) (tl (27 + 6 * n + 3)) (tl (27 + 6 * n + 4)) (tl (27 + 6 * n + 2)) = tl (27 + 6 * n + 5))) S)))]) hx hb dX9_kindsOf_133 rfl hl (by decide) rfl (fun ls hl => ?_)
                refine lv_iinc (v := nI (k + 1)) (lv' := [(3, .int (nI (k + 1))), (2, .int (setB (fun k => allN (fun n => !decide (tl (27 + 6 * n) = i) || decide (crk (nI k) (tl (27 + 6 * n + 1)) (tl (27 + 6 * n + 3)) (tl (27 + 6 * n + 4)) (tl (27 + 6 * n + 2)) = tl (27 + 6 * n + 5))) S) (k + 1))), (0, .ref (o 0)), (1, .int (i)), (4, .int (b2i (allN (fun n => !decide (tl (27 + 6 * n) = i) || decide (crk (nI k) (tl (27 + 6 * n + 1)) (tl (27 + 6 * n + 3)) (tl (27 + 6 * n + 4)) (tl (27 + 6 * n + 2)) = tl (27 + 6 * n + 5))) S)))]) hx hb dX9_kindsOf_134 hl (k := 3) rfl (inc_nI k) (by decide) rfl (fun ls hl => ?_)
                refine lv_goto (tgt := 4) hx hb dX9_kindsOf_137 (by decide) ?_
                exact ih4 (k + 1) (by omega) (by omega) _ (lv_sub hl [2, 3, 1, 0] rfl)
              · skip
                have c3 := b2i_1 c3
                refine lv_iconst (v := 1) hx hb dX9_kindsOf_125 rfl ?_
                refine lv_iload_n hx hb dX9_kindsOf_126 rfl (lv_at hl 3 rfl) ?_
                refine lv_ishl hx hb dX9_kindsOf_127 ?_
                refine lv_goto (tgt := 132) hx hb dX9_kindsOf_128 (by decide) ?_
                refine lv_ior hx hb dX9_kindsOf_132 ?_
                refine top_i (x := (setB (fun k => allN (fun n => !decide (tl (27 + 6 * n) = i) || decide (crk (nI k) (tl (27 + 6 * n + 1)) (tl (27 + 6 * n + 3)) (tl (27 + 6 * n + 4)) (tl (27 + 6 * n + 2)) = tl (27 + 6 * n + 5))) S) k) ||| (1 <<< ((nI k) &&& 31))) (y := setB (fun k => allN (fun n => !decide (tl (27 + 6 * n) = i) || decide (crk (nI k) (tl (27 + 6 * n + 1)) (tl (27 + 6 * n + 3)) (tl (27 + 6 * n + 4)) (tl (27 + 6 * n + 2)) = tl (27 + 6 * n + 5))) S) (k + 1)) (setB_t (p := (fun k => allN (fun n => !decide (tl (27 + 6 * n) = i) || decide (crk (nI k) (tl (27 + 6 * n + 1)) (tl (27 + 6 * n + 3)) (tl (27 + 6 * n + 4)) (tl (27 + 6 * n + 2)) = tl (27 + 6 * n + 5))) S)) c3) ?_
                refine lv_istore_n (lv' := [(2, .int (setB (fun k => allN (fun n => !decide (tl (27 + 6 * n) = i) || decide (crk (nI k) (tl (27 + 6 * n + 1)) (tl (27 + 6 * n + 3)) (tl (27 + 6 * n + 4)) (tl (27 + 6 * n + 2)) = tl (27 + 6 * n + 5))) S) (k + 1))), (0, .ref (o 0)), (1, .int (i)), (3, .int (nI k)), (4, .int (b2i (allN (fun n => !decide (tl (27 + 6 * n) = i) || decide (crk (nI k) (tl (27 + 6 * n + 1)) (tl (27 + 6 * n + 3)) (tl (27 + 6 * n + 4)) (tl (27 + 6 * n + 2)) = tl (27 + 6 * n + 5))) S)))]) hx hb dX9_kindsOf_133 rfl hl (by decide) rfl (fun ls hl => ?_)
                refine lv_iinc (v := nI (k + 1)) (lv' := [(3, .int (nI (k + 1))), (2, .int (setB (fun k => allN (fun n => !decide (tl (27 + 6 * n) = i) || decide (crk (nI k) (tl (27 + 6 * n + 1)) (tl (27 + 6 * n + 3)) (tl (27 + 6 * n + 4)) (tl (27 + 6 * n + 2)) = tl (27 + 6 * n + 5))) S) (k + 1))), (0, .ref (o 0)), (1, .int (i)), (4, .int (b2i (allN (fun n => !decide (tl (27 + 6 * n) = i) || decide (crk (nI k) (tl (27 + 6 * n + 1)) (tl (27 + 6 * n + 3)) (tl (27 + 6 * n + 4)) (tl (27 + 6 * n + 2)) = tl (27 + 6 * n + 5))) S)))]) hx hb dX9_kindsOf_134 hl (k := 3) rfl (inc_nI k) (by decide) rfl (fun ls hl => ?_)
                refine lv_goto (tgt := 4) hx hb dX9_kindsOf_137 (by decide) ?_
                exact ih4 (k + 1) (by omega) (by omega) _ (lv_sub hl [2, 3, 1, 0] rfl)
            · skip
              have c2' := Int32.not_le.mp c2
              have hn9 : n < S := by rw [nI_leI (by omega) (by omega)] at c2; omega
              refine lv_bipush (v := 27) hx hb dX9_kindsOf_28 rfl ?_
              refine lv_bipush (v := 6) hx hb dX9_kindsOf_30 rfl ?_
              refine lv_iload hx hb dX9_kindsOf_32 (lv_at hl 5 rfl) ?_
              refine lv_imul hx hb dX9_kindsOf_34 ?_
              refine top_i (x := 6 * (nI n)) (y := nI (6 * n)) (show nI 6 * nI n = _ from pk_mul 6 n) ?_
              refine lv_iadd hx hb dX9_kindsOf_35 ?_
              refine top_i (x := 27 + (nI (6 * n))) (y := nI (27 + 6 * n)) (show nI 27 + nI (6 * n) = _ from nI_add 27 (6 * n)) ?_
              refine lv_istore (lv' := [(6, .int (nI (27 + 6 * n))), (0, .ref (o 0)), (1, .int (i)), (2, .int (setB (fun k => allN (fun n => !decide (tl (27 + 6 * n) = i) || decide (crk (nI k) (tl (27 + 6 * n + 1)) (tl (27 + 6 * n + 3)) (tl (27 + 6 * n + 4)) (tl (27 + 6 * n + 2)) = tl (27 + 6 * n + 5))) S) k)), (3, .int (nI k)), (4, .int (b2i (allN (fun n => !decide (tl (27 + 6 * n) = i) || decide (crk (nI k) (tl (27 + 6 * n + 1)) (tl (27 + 6 * n + 3)) (tl (27 + 6 * n + 4)) (tl (27 + 6 * n + 2)) = tl (27 + 6 * n + 5))) n))), (5, .int (nI n))]) hx hb dX9_kindsOf_36 hl (by decide) rfl (fun ls hl => ?_)
              refine lv_iload hx hb dX9_kindsOf_38 (lv_at hl 5 rfl) ?_
              refine lv_if_eq (tgt := 110) hx hb dX9_kindsOf_40 (by decide) (fun c4 => ?_) (fun c4 => ?_)
              · skip
                have c4 := b2i_0 c4
                refine lv_iconst (v := 0) hx hb dX9_kindsOf_110 rfl ?_
                refine lv_istore (lv' := [(4, .int (0)), (6, .int (nI (27 + 6 * n))), (0, .ref (o 0)), (1, .int (i)), (2, .int (setB (fun k => allN (fun n => !decide (tl (27 + 6 * n) = i) || decide (crk (nI k) (tl (27 + 6 * n + 1)) (tl (27 + 6 * n + 3)) (tl (27 + 6 * n + 4)) (tl (27 + 6 * n + 2)) = tl (27 + 6 * n + 5))) S) k)), (3, .int (nI k)), (5, .int (nI n))]) hx hb dX9_kindsOf_111 hl (by decide) rfl (fun ls hl => ?_)
                refine lv_iinc (v := nI (n + 1)) (lv' := [(5, .int (nI (n + 1))), (4, .int (0)), (6, .int (nI (27 + 6 * n))), (0, .ref (o 0)), (1, .int (i)), (2, .int (setB (fun k => allN (fun n => !decide (tl (27 + 6 * n) = i) || decide (crk (nI k) (tl (27 + 6 * n + 1)) (tl (27 + 6 * n + 3)) (tl (27 + 6 * n + 4)) (tl (27 + 6 * n + 2)) = tl (27 + 6 * n + 5))) S) k)), (3, .int (nI k))]) hx hb dX9_kindsOf_113 hl (k := 6) rfl (inc_nI n) (by decide) rfl (fun ls hl => ?_)
                refine lv_goto (tgt := 16) hx hb dX9_kindsOf_116 (by decide) ?_
                have e9 : b2i (allN (fun n => !decide (tl (27 + 6 * n) = i) || decide (crk (nI k) (tl (27 + 6 * n + 1)) (tl (27 + 6 * n + 3)) (tl (27 + 6 * n + 4)) (tl (27 + 6 * n + 2)) = tl (27 + 6 * n + 5))) (n + 1)) = 0 := by simp [allN, b2i, hn, c2, c2', c4]
                have hl : lv_has ls 7 [(5, .int (nI (n + 1))), (4, .int (b2i (allN (fun n => !decide (tl (27 + 6 * n) = i) || decide (crk (nI k) (tl (27 + 6 * n + 1)) (tl (27 + 6 * n + 3)) (tl (27 + 6 * n + 4)) (tl (27 + 6 * n + 2)) = tl (27 + 6 * n + 5))) (n + 1)))), (6, .int (nI (27 + 6 * n))), (0, .ref (o 0)), (1, .int (i)), (2, .int (setB (fun k => allN (fun n => !decide (tl (27 + 6 * n) = i) || decide (crk (nI k) (tl (27 + 6 * n + 1)) (tl (27 + 6 * n + 3)) (tl (27 + 6 * n + 4)) (tl (27 + 6 * n + 2)) = tl (27 + 6 * n + 5))) S) k)), (3, .int (nI k))] := by rw [e9]; exact hl
                exact ih16 (n + 1) (by omega) (by omega) _ (lv_sub hl [3, 4, 5, 6, 1, 0] rfl)
              · skip
                have c4 := b2i_1 c4
                refine lv_aload_n hx hb dX9_kindsOf_43 rfl (lv_at hl 1 rfl) ?_
                refine kget hC.1 hK (kP_app.mp hP).1 0 rfl rfl in_9 6 (by decide) (gw_in m_966 rfl) rfl dX9_kindsOf_44 ?_
                refine lv_iload hx hb dX9_kindsOf_47 (lv_at hl 0 rfl) ?_
                refine kald (v := tl (27 + 6 * n)) hC.1 hK (kP_app.mp (kP_app.mp (kP_app.mp hP).2).2).1 0 rfl (vp_in_nI (by omega) (by omega)) (by rw [cl_nI (by omega)]) dX9_kindsOf_49 ?_
                refine lv_iload_n hx hb dX9_kindsOf_50 rfl (lv_at hl 2 rfl) ?_
                refine lv_icmp_ne (tgt := 106) hx hb dX9_kindsOf_51 (by decide) (fun c5 => ?_) (fun c5 => ?_)
                · skip
                  refine lv_iconst (v := 1) hx hb dX9_kindsOf_106 rfl ?_
                  refine lv_goto (tgt := 111) hx hb dX9_kindsOf_107 (by decide) ?_
                  refine lv_istore (lv' := [(4, .int (1)), (6, .int (nI (27 + 6 * n))), (0, .ref (o 0)), (1, .int (i)), (2, .int (setB (fun k => allN (fun n => !decide (tl (27 + 6 * n) = i) || decide (crk (nI k) (tl (27 + 6 * n + 1)) (tl (27 + 6 * n + 3)) (tl (27 + 6 * n + 4)) (tl (27 + 6 * n + 2)) = tl (27 + 6 * n + 5))) S) k)), (3, .int (nI k)), (5, .int (nI n))]) hx hb dX9_kindsOf_111 hl (by decide) rfl (fun ls hl => ?_)
                  refine lv_iinc (v := nI (n + 1)) (lv' := [(5, .int (nI (n + 1))), (4, .int (1)), (6, .int (nI (27 + 6 * n))), (0, .ref (o 0)), (1, .int (i)), (2, .int (setB (fun k => allN (fun n => !decide (tl (27 + 6 * n) = i) || decide (crk (nI k) (tl (27 + 6 * n + 1)) (tl (27 + 6 * n + 3)) (tl (27 + 6 * n + 4)) (tl (27 + 6 * n + 2)) = tl (27 + 6 * n + 5))) S) k)), (3, .int (nI k))]) hx hb dX9_kindsOf_113 hl (k := 6) rfl (inc_nI n) (by decide) rfl (fun ls hl => ?_)
                  refine lv_goto (tgt := 16) hx hb dX9_kindsOf_116 (by decide) ?_
                  have e9 : b2i (allN (fun n => !decide (tl (27 + 6 * n) = i) || decide (crk (nI k) (tl (27 + 6 * n + 1)) (tl (27 + 6 * n + 3)) (tl (27 + 6 * n + 4)) (tl (27 + 6 * n + 2)) = tl (27 + 6 * n + 5))) (n + 1)) = 1 := by simp [allN, b2i, hn, c2, c2', c4, c5]
                  have hl : lv_has ls 7 [(5, .int (nI (n + 1))), (4, .int (b2i (allN (fun n => !decide (tl (27 + 6 * n) = i) || decide (crk (nI k) (tl (27 + 6 * n + 1)) (tl (27 + 6 * n + 3)) (tl (27 + 6 * n + 4)) (tl (27 + 6 * n + 2)) = tl (27 + 6 * n + 5))) (n + 1)))), (6, .int (nI (27 + 6 * n))), (0, .ref (o 0)), (1, .int (i)), (2, .int (setB (fun k => allN (fun n => !decide (tl (27 + 6 * n) = i) || decide (crk (nI k) (tl (27 + 6 * n + 1)) (tl (27 + 6 * n + 3)) (tl (27 + 6 * n + 4)) (tl (27 + 6 * n + 2)) = tl (27 + 6 * n + 5))) S) k)), (3, .int (nI k))] := by rw [e9]; exact hl
                  exact ih16 (n + 1) (by omega) (by omega) _ (lv_sub hl [3, 4, 5, 6, 1, 0] rfl)
                · skip
                  refine lv_iload_n hx hb dX9_kindsOf_54 rfl (lv_at hl 4 rfl) ?_
                  refine lv_aload_n hx hb dX9_kindsOf_55 rfl (lv_at hl 1 rfl) ?_
                  refine kget hC.1 hK (kP_app.mp hP).1 0 rfl rfl in_9 6 (by decide) (gw_in m_966 rfl) rfl dX9_kindsOf_56 ?_
                  refine lv_iload hx hb dX9_kindsOf_59 (lv_at hl 0 rfl) ?_
                  refine lv_iconst (v := 1) hx hb dX9_kindsOf_61 rfl ?_
                  refine lv_iadd hx hb dX9_kindsOf_62 ?_
                  refine top_i (x := (nI (27 + 6 * n)) + 1) (y := nI (27 + 6 * n + 1)) (nI_add _ 1) ?_
                  refine kald (v := tl (27 + 6 * n + 1)) hC.1 hK (kP_app.mp (kP_app.mp (kP_app.mp hP).2).2).1 0 rfl (vp_in_nI (by omega) (by omega)) (by rw [cl_nI (by omega)]) dX9_kindsOf_63 ?_
                  refine lv_aload_n hx hb dX9_kindsOf_64 rfl (lv_at hl 1 rfl) ?_
                  refine kget hC.1 hK (kP_app.mp hP).1 0 rfl rfl in_9 6 (by decide) (gw_in m_966 rfl) rfl dX9_kindsOf_65 ?_
                  refine lv_iload hx hb dX9_kindsOf_68 (lv_at hl 0 rfl) ?_
                  refine lv_iconst (v := 3) hx hb dX9_kindsOf_70 rfl ?_
                  refine lv_iadd hx hb dX9_kindsOf_71 ?_
                  refine top_i (x := (nI (27 + 6 * n)) + 3) (y := nI (27 + 6 * n + 3)) (nI_add _ 3) ?_
                  refine kald (v := tl (27 + 6 * n + 3)) hC.1 hK (kP_app.mp (kP_app.mp (kP_app.mp hP).2).2).1 0 rfl (vp_in_nI (by omega) (by omega)) (by rw [cl_nI (by omega)]) dX9_kindsOf_72 ?_
                  refine lv_aload_n hx hb dX9_kindsOf_73 rfl (lv_at hl 1 rfl) ?_
                  refine kget hC.1 hK (kP_app.mp hP).1 0 rfl rfl in_9 6 (by decide) (gw_in m_966 rfl) rfl dX9_kindsOf_74 ?_
                  refine lv_iload hx hb dX9_kindsOf_77 (lv_at hl 0 rfl) ?_
                  refine lv_iconst (v := 4) hx hb dX9_kindsOf_79 rfl ?_
                  refine lv_iadd hx hb dX9_kindsOf_80 ?_
                  refine top_i (x := (nI (27 + 6 * n)) + 4) (y := nI (27 + 6 * n + 4)) (nI_add _ 4) ?_
                  refine kald (v := tl (27 + 6 * n + 4)) hC.1 hK (kP_app.mp (kP_app.mp (kP_app.mp hP).2).2).1 0 rfl (vp_in_nI (by omega) (by omega)) (by rw [cl_nI (by omega)]) dX9_kindsOf_81 ?_
                  refine lv_aload_n hx hb dX9_kindsOf_82 rfl (lv_at hl 1 rfl) ?_
                  refine kget hC.1 hK (kP_app.mp hP).1 0 rfl rfl in_9 6 (by decide) (gw_in m_966 rfl) rfl dX9_kindsOf_83 ?_
                  refine lv_iload hx hb dX9_kindsOf_86 (lv_at hl 0 rfl) ?_
                  refine lv_iconst (v := 2) hx hb dX9_kindsOf_88 rfl ?_
                  refine lv_iadd hx hb dX9_kindsOf_89 ?_
                  refine top_i (x := (nI (27 + 6 * n)) + 2) (y := nI (27 + 6 * n + 2)) (nI_add _ 2) ?_
                  refine kald (v := tl (27 + 6 * n + 2)) hC.1 hK (kP_app.mp (kP_app.mp (kP_app.mp hP).2).2).1 0 rfl (vp_in_nI (by omega) (by omega)) (by rw [cl_nI (by omega)]) dX9_kindsOf_90 ?_
                  refine ro_i (run_S (As := [.int (nI k), .int (tl (27 + 6 * n + 1)), .int (tl (27 + 6 * n + 3)), .int (tl (27 + 6 * n + 4)), .int (tl (27 + 6 * n + 2))]) (rest := []) hC.1 ckX9_cracksBy (kX9_cracksBy l (nI k) (tl (27 + 6 * n + 1)) (tl (27 + 6 * n + 3)) (tl (27 + 6 * n + 4)) (tl (27 + 6 * n + 2))) (gw_in m_1157 rfl) (fb_nil _) (fun _ _ _ => trivial) ⟨rfl, rfl, Nat.le_of_ble_eq_true rfl, Nat.le_of_ble_eq_true rfl⟩ rfl hl.1 rfl (Nat.le_of_ble_eq_true rfl) dX9_kindsOf_91 ⟨Nat.le_of_ble_eq_true rfl, Nat.le_of_ble_eq_true rfl⟩) ?_
                  refine lv_aload_n hx hb dX9_kindsOf_94 rfl (lv_at hl 1 rfl) ?_
                  refine kget hC.1 hK (kP_app.mp hP).1 0 rfl rfl in_9 6 (by decide) (gw_in m_966 rfl) rfl dX9_kindsOf_95 ?_
                  refine lv_iload hx hb dX9_kindsOf_98 (lv_at hl 0 rfl) ?_
                  refine lv_iconst (v := 5) hx hb dX9_kindsOf_100 rfl ?_
                  refine lv_iadd hx hb dX9_kindsOf_101 ?_
                  refine top_i (x := (nI (27 + 6 * n)) + 5) (y := nI (27 + 6 * n + 5)) (nI_add _ 5) ?_
                  refine kald (v := tl (27 + 6 * n + 5)) hC.1 hK (kP_app.mp (kP_app.mp (kP_app.mp hP).2).2).1 0 rfl (vp_in_nI (by omega) (by omega)) (by rw [cl_nI (by omega)]) dX9_kindsOf_102 ?_
                  refine lv_icmp_ne (tgt := 110) hx hb dX9_kindsOf_103 (by decide) (fun c6 => ?_) (fun c6 => ?_)
                  · skip
                    refine lv_iconst (v := 0) hx hb dX9_kindsOf_110 rfl ?_
                    refine lv_istore (lv' := [(4, .int (0)), (6, .int (nI (27 + 6 * n))), (0, .ref (o 0)), (1, .int (i)), (2, .int (setB (fun k => allN (fun n => !decide (tl (27 + 6 * n) = i) || decide (crk (nI k) (tl (27 + 6 * n + 1)) (tl (27 + 6 * n + 3)) (tl (27 + 6 * n + 4)) (tl (27 + 6 * n + 2)) = tl (27 + 6 * n + 5))) S) k)), (3, .int (nI k)), (5, .int (nI n))]) hx hb dX9_kindsOf_111 hl (by decide) rfl (fun ls hl => ?_)
                    refine lv_iinc (v := nI (n + 1)) (lv' := [(5, .int (nI (n + 1))), (4, .int (0)), (6, .int (nI (27 + 6 * n))), (0, .ref (o 0)), (1, .int (i)), (2, .int (setB (fun k => allN (fun n => !decide (tl (27 + 6 * n) = i) || decide (crk (nI k) (tl (27 + 6 * n + 1)) (tl (27 + 6 * n + 3)) (tl (27 + 6 * n + 4)) (tl (27 + 6 * n + 2)) = tl (27 + 6 * n + 5))) S) k)), (3, .int (nI k))]) hx hb dX9_kindsOf_113 hl (k := 6) rfl (inc_nI n) (by decide) rfl (fun ls hl => ?_)
                    refine lv_goto (tgt := 16) hx hb dX9_kindsOf_116 (by decide) ?_
                    have e9 : b2i (allN (fun n => !decide (tl (27 + 6 * n) = i) || decide (crk (nI k) (tl (27 + 6 * n + 1)) (tl (27 + 6 * n + 3)) (tl (27 + 6 * n + 4)) (tl (27 + 6 * n + 2)) = tl (27 + 6 * n + 5))) (n + 1)) = 0 := by simp [allN, b2i, hn, c2, c2', c4, c5, c6]
                    have hl : lv_has ls 7 [(5, .int (nI (n + 1))), (4, .int (b2i (allN (fun n => !decide (tl (27 + 6 * n) = i) || decide (crk (nI k) (tl (27 + 6 * n + 1)) (tl (27 + 6 * n + 3)) (tl (27 + 6 * n + 4)) (tl (27 + 6 * n + 2)) = tl (27 + 6 * n + 5))) (n + 1)))), (6, .int (nI (27 + 6 * n))), (0, .ref (o 0)), (1, .int (i)), (2, .int (setB (fun k => allN (fun n => !decide (tl (27 + 6 * n) = i) || decide (crk (nI k) (tl (27 + 6 * n + 1)) (tl (27 + 6 * n + 3)) (tl (27 + 6 * n + 4)) (tl (27 + 6 * n + 2)) = tl (27 + 6 * n + 5))) S) k)), (3, .int (nI k))] := by rw [e9]; exact hl
                    exact ih16 (n + 1) (by omega) (by omega) _ (lv_sub hl [3, 4, 5, 6, 1, 0] rfl)
                  · skip
                    refine lv_iconst (v := 1) hx hb dX9_kindsOf_106 rfl ?_
                    refine lv_goto (tgt := 111) hx hb dX9_kindsOf_107 (by decide) ?_
                    refine lv_istore (lv' := [(4, .int (1)), (6, .int (nI (27 + 6 * n))), (0, .ref (o 0)), (1, .int (i)), (2, .int (setB (fun k => allN (fun n => !decide (tl (27 + 6 * n) = i) || decide (crk (nI k) (tl (27 + 6 * n + 1)) (tl (27 + 6 * n + 3)) (tl (27 + 6 * n + 4)) (tl (27 + 6 * n + 2)) = tl (27 + 6 * n + 5))) S) k)), (3, .int (nI k)), (5, .int (nI n))]) hx hb dX9_kindsOf_111 hl (by decide) rfl (fun ls hl => ?_)
                    refine lv_iinc (v := nI (n + 1)) (lv' := [(5, .int (nI (n + 1))), (4, .int (1)), (6, .int (nI (27 + 6 * n))), (0, .ref (o 0)), (1, .int (i)), (2, .int (setB (fun k => allN (fun n => !decide (tl (27 + 6 * n) = i) || decide (crk (nI k) (tl (27 + 6 * n + 1)) (tl (27 + 6 * n + 3)) (tl (27 + 6 * n + 4)) (tl (27 + 6 * n + 2)) = tl (27 + 6 * n + 5))) S) k)), (3, .int (nI k))]) hx hb dX9_kindsOf_113 hl (k := 6) rfl (inc_nI n) (by decide) rfl (fun ls hl => ?_)
                    refine lv_goto (tgt := 16) hx hb dX9_kindsOf_116 (by decide) ?_
                    have e9 : b2i (allN (fun n => !decide (tl (27 + 6 * n) = i) || decide (crk (nI k) (tl (27 + 6 * n + 1)) (tl (27 + 6 * n + 3)) (tl (27 + 6 * n + 4)) (tl (27 + 6 * n + 2)) = tl (27 + 6 * n + 5))) (n + 1)) = 1 := by simp [allN, b2i, hn, c2, c2', c4, c5, c6]
                    have hl : lv_has ls 7 [(5, .int (nI (n + 1))), (4, .int (b2i (allN (fun n => !decide (tl (27 + 6 * n) = i) || decide (crk (nI k) (tl (27 + 6 * n + 1)) (tl (27 + 6 * n + 3)) (tl (27 + 6 * n + 4)) (tl (27 + 6 * n + 2)) = tl (27 + 6 * n + 5))) (n + 1)))), (6, .int (nI (27 + 6 * n))), (0, .ref (o 0)), (1, .int (i)), (2, .int (setB (fun k => allN (fun n => !decide (tl (27 + 6 * n) = i) || decide (crk (nI k) (tl (27 + 6 * n + 1)) (tl (27 + 6 * n + 3)) (tl (27 + 6 * n + 4)) (tl (27 + 6 * n + 2)) = tl (27 + 6 * n + 5))) S) k)), (3, .int (nI k))] := by rw [e9]; exact hl
                    exact ih16 (n + 1) (by omega) (by omega) _ (lv_sub hl [3, 4, 5, 6, 1, 0] rfl)
        exact cut16 _ 0 (Nat.lt_succ_self _) (by omega) _ (lv_sub hl [2, 3, 4, 5, 1, 0] rfl)
  exact cut4 _ 0 (Nat.lt_succ_self _) (by omega) _ (lv_sub hl [2, 3, 1, 0] rfl)
set_option maxHeartbeats 4000000 in
set_option maxRecDepth 100000 in
theorem kX9_playersOf (l : Launch) (g : gG) (o : Nat → Nat) (ab be : Int64) (lm ra ta : Nat) (ti fa : Int32) (um ua : Nat) (hh : Int64) (r tl : Nat → Int32) (S : Nat) (i : Int32) (hw : Wf r) (hS0 : tl 63 = nI S) (hS6 : S ≤ 6) : Met l yX9_playersOf (.code yX9_playersOf cX9_playersOf 7 (some .int) :: gw) (rmN 1) (va_Pc [.ref (o 0), .int (i)] (roPre g (mO g o ab be lm ra ta ti fa um ua hh ++ (aW g (o 2) 45 r ++ (aW g (o 5) 94 tl ++ []))))) (vp_Si (fun v => v = (setB (fun k => allN (fun n => !decide (tl (64 + 5 * n) = i) || decide (frc (nI k) (tl (64 + 5 * n + 1)) (tl (64 + 5 * n + 2)) (tl (64 + 5 * n + 3)) = tl (64 + 5 * n + 4))) S) 6))) 0 0 (fun _ => False) := by
  refine met_start (by decide) (Nat.le_of_ble_eq_true rfl) ?_
  intro pp ee ss mm bl mt cd hC hpre ls hl
  obtain ⟨⟨hx, hb, hml, hown, hts⟩, hr, hlk, hnm⟩ := id hC
  have hl : lv_has ls 7 [(0, .ref (o 0)), (1, .int (i))] := hl
  obtain ⟨hP, hK⟩ := hpre
  refine lv_iconst (v := 0) hx hb dX9_playersOf_0 rfl ?_
  refine lv_istore_n (lv' := [(2, .int (0)), (0, .ref (o 0)), (1, .int (i))]) hx hb dX9_playersOf_1 rfl hl (by decide) rfl (fun ls hl => ?_)
  refine lv_iconst (v := 0) hx hb dX9_playersOf_2 rfl ?_
  refine lv_istore_n (lv' := [(3, .int (0)), (2, .int (0)), (0, .ref (o 0)), (1, .int (i))]) hx hb dX9_playersOf_3 rfl hl (by decide) rfl (fun ls hl => ?_)
  have cut4 : ∀ kk : Nat, ∀ (k : Nat), 7 - k < kk → (hk : k ≤ 6) → ∀ (ls : Array Slot), lv_has ls 7 [(0, .ref (o 0)), (1, .int (i)), (2, .int (setB (fun k => allN (fun n => !decide (tl (64 + 5 * n) = i) || decide (frc (nI k) (tl (64 + 5 * n + 1)) (tl (64 + 5 * n + 2)) (tl (64 + 5 * n + 3)) = tl (64 + 5 * n + 4))) S) k)), (3, .int (nI k))] → W pp l ee (rmN 1) ss mm ([.ref (o 0), .int (i)] : List Value).toArray bl mt cd ss.heap [] 0 0 (MQ bl (vp_Si (fun v => v = (setB (fun k => allN (fun n => !decide (tl (64 + 5 * n) = i) || decide (frc (nI k) (tl (64 + 5 * n + 1)) (tl (64 + 5 * n + 2)) (tl (64 + 5 * n + 3)) = tl (64 + 5 * n + 4))) S) 6))) ([.ref (o 0), .int (i)] : List Value).toArray ss 0 0 (fun _ => False)) (F0 mm 4 ls []) := by
    intro kk
    induction kk with
    | zero => intro k hmu; exact absurd hmu (Nat.not_lt_zero _)
    | succ kk ih4 =>
      intro k hmu hk ls hl
      refine lv_iload_n hx hb dX9_playersOf_4 rfl (lv_at hl 3 rfl) ?_
      refine lv_bipush (v := 6) hx hb dX9_playersOf_5 rfl ?_
      refine lv_icmp_ge (tgt := 130) hx hb dX9_playersOf_7 (by decide) (fun c1 => ?_) (fun c1 => ?_)
      · skip
        have c1' := Int32.not_lt.mpr c1
        have hk9 : k = 6 := by have := lp_ge (by omega) c1; rw [show (6 : Int32).toInt = 6 from rfl] at this; omega
        subst hk9
        refine lv_iload_n hx hb dX9_playersOf_130 rfl (lv_at hl 2 rfl) ?_
        exact ret_roi hx hb hr hlk (by rfl) dX9_playersOf_131
      · skip
        have c1' := Int32.not_le.mp c1
        have hk9 : k < 6 := by have := lp_lt (by omega) c1; rw [show (6 : Int32).toInt = 6 from rfl] at this; omega
        refine lv_iconst (v := 1) hx hb dX9_playersOf_10 rfl ?_
        refine lv_istore (lv' := [(4, .int (1)), (0, .ref (o 0)), (1, .int (i)), (2, .int (setB (fun k => allN (fun n => !decide (tl (64 + 5 * n) = i) || decide (frc (nI k) (tl (64 + 5 * n + 1)) (tl (64 + 5 * n + 2)) (tl (64 + 5 * n + 3)) = tl (64 + 5 * n + 4))) S) k)), (3, .int (nI k))]) hx hb dX9_playersOf_11 hl (by decide) rfl (fun ls hl => ?_)
        refine lv_iconst (v := 0) hx hb dX9_playersOf_13 rfl ?_
        refine lv_istore (lv' := [(5, .int (0)), (4, .int (1)), (0, .ref (o 0)), (1, .int (i)), (2, .int (setB (fun k => allN (fun n => !decide (tl (64 + 5 * n) = i) || decide (frc (nI k) (tl (64 + 5 * n + 1)) (tl (64 + 5 * n + 2)) (tl (64 + 5 * n + 3)) = tl (64 + 5 * n + 4))) S) k)), (3, .int (nI k))]) hx hb dX9_playersOf_14 hl (by decide) rfl (fun ls hl => ?_)
        have cut16 : ∀ kk : Nat, ∀ (n : Nat), 7 - n < kk → (hn : n ≤ S) → ∀ (ls : Array Slot), lv_has ls 7 [(0, .ref (o 0)), (1, .int (i)), (2, .int (setB (fun k => allN (fun n => !decide (tl (64 + 5 * n) = i) || decide (frc (nI k) (tl (64 + 5 * n + 1)) (tl (64 + 5 * n + 2)) (tl (64 + 5 * n + 3)) = tl (64 + 5 * n + 4))) S) k)), (3, .int (nI k)), (4, .int (b2i (allN (fun n => !decide (tl (64 + 5 * n) = i) || decide (frc (nI k) (tl (64 + 5 * n + 1)) (tl (64 + 5 * n + 2)) (tl (64 + 5 * n + 3)) = tl (64 + 5 * n + 4))) n))), (5, .int (nI n))] → W pp l ee (rmN 1) ss mm ([.ref (o 0), .int (i)] : List Value).toArray bl mt cd ss.heap [] 0 0 (MQ bl (vp_Si (fun v => v = (setB (fun k => allN (fun n => !decide (tl (64 + 5 * n) = i) || decide (frc (nI k) (tl (64 + 5 * n + 1)) (tl (64 + 5 * n + 2)) (tl (64 + 5 * n + 3)) = tl (64 + 5 * n + 4))) S) 6))) ([.ref (o 0), .int (i)] : List Value).toArray ss 0 0 (fun _ => False)) (F0 mm 16 ls []) := by
          intro kk
          induction kk with
          | zero => intro n hmu; exact absurd hmu (Nat.not_lt_zero _)
          | succ kk ih16 =>
            intro n hmu hn ls hl
            refine lv_iload hx hb dX9_playersOf_16 (lv_at hl 5 rfl) ?_
            refine lv_aload_n hx hb dX9_playersOf_18 rfl (lv_at hl 0 rfl) ?_
            refine kget hC.1 hK (kP_app.mp hP).1 0 rfl rfl in_9 6 (by decide) (gw_in m_966 rfl) rfl dX9_playersOf_19 ?_
            refine lv_bipush (v := 63) hx hb dX9_playersOf_22 rfl ?_
            refine kald (v := nI S) hC.1 hK (kP_app.mp (kP_app.mp (kP_app.mp hP).2).2).1 0 rfl (show vp_in (nI 63) 94 from vp_in_nI (by omega) (by omega)) ((congrArg tl (show cl 63 = 63 from by decide)).trans hS0) dX9_playersOf_24 ?_
            refine lv_icmp_ge (tgt := 109) hx hb dX9_playersOf_25 (by decide) (fun c2 => ?_) (fun c2 => ?_)
            · skip
              have c2' := Int32.not_lt.mpr c2
              have hn9 : S = n := by rw [nI_leI (by omega) (by omega)] at c2; omega
              subst hn9
              have hl : lv_has ls 7 [(0, .ref (o 0)), (1, .int (i)), (2, .int (setB (fun k => allN (fun n => !decide (tl (64 + 5 * n) = i) || decide (frc (nI k) (tl (64 + 5 * n + 1)) (tl (64 + 5 * n + 2)) (tl (64 + 5 * n + 3)) = tl (64 + 5 * n + 4))) S) k)), (3, .int (nI k)), (4, .int (b2i (allN (fun n => !decide (tl (64 + 5 * n) = i) || decide (frc (nI k) (tl (64 + 5 * n + 1)) (tl (64 + 5 * n + 2)) (tl (64 + 5 * n + 3)) = tl (64 + 5 * n + 4))) S)))] := lv_sub hl [0, 1, 2, 3, 4] rfl
              refine lv_iload_n hx hb dX9_playersOf_109 rfl (lv_at hl 2 rfl) ?_
              refine lv_iload hx hb dX9_playersOf_110 (lv_at hl 4 rfl) ?_
              refine lv_if_eq (tgt := 121) hx hb dX9_playersOf_112 (by decide) (fun c3 => ?_) (fun c3 => ?_)
              · skip
                have c3 := b2i_0 c3
                refine lv_iconst (v := 0) hx hb dX9_playersOf_121 rfl ?_
                refine lv_ior hx hb dX9_playersOf_122 ?_
                refine top_i (x := (setB (fun k => allN (fun n => !decide (tl (64 + 5 * n) = i) || decide (frc (nI k) (tl (64 + 5 * n + 1)) (tl (64 + 5 * n + 2)) (tl (64 + 5 * n + 3)) = tl (64 + 5 * n + 4))) S) k) ||| 0) (y := setB (fun k => allN (fun n => !decide (tl (64 + 5 * n) = i) || decide (frc (nI k) (tl (64 + 5 * n + 1)) (tl (64 + 5 * n + 2)) (tl (64 + 5 * n + 3)) = tl (64 + 5 * n + 4))) S) (k + 1)) (setB_0 (p := (fun k => allN (fun n => !decide (tl (64 + 5 * n) = i) || decide (frc (nI k) (tl (64 + 5 * n + 1)) (tl (64 + 5 * n + 2)) (tl (64 + 5 * n + 3)) = tl (64 + 5 * n + 4))) S)) c3) ?_
                refine lv_istore_n (lv' := [(2, .int (setB (fun k => allN (fun n => !decide (tl (64 + 5 * n) = i) || decide (frc (nI k) (tl (64 + 5 * n + 1)) (tl (64 + 5 * n + 2)) (tl (64 + 5 * n + 3)) = tl (64 + 5 * n + 4))) S) (k + 1))), (0, .ref (o 0)), (1, .int (i)), (3, .int (nI k)), (4, .int (b2i (allN (fun n => !decide (tl (64 + 5 * n) = i) || decide (frc (nI k) (tl (64 + 5 * n + 1)) (tl (64 + 5 * n + 2)) (tl (64 + 5 * n + 3)) = tl (64 + 5 * n + 4))) S)))]) hx hb dX9_playersOf_123 rfl hl (by decide) rfl (fun ls hl => ?_)
                refine lv_iinc (v := nI (k + 1)) (lv' := [(3, .int (nI (k + 1))), (2, .int (setB (fun k => allN (fun n => !decide (tl (64 + 5 * n) = i) || decide (frc (nI k) (tl (64 + 5 * n + 1)) (tl (64 + 5 * n + 2)) (tl (64 + 5 * n + 3)) = tl (64 + 5 * n + 4))) S) (k + 1))), (0, .ref (o 0)), (1, .int (i)), (4, .int (b2i (allN (fun n => !decide (tl (64 + 5 * n) = i) || decide (frc (nI k) (tl (64 + 5 * n + 1)) (tl (64 + 5 * n + 2)) (tl (64 + 5 * n + 3)) = tl (64 + 5 * n + 4))) S)))]) hx hb dX9_playersOf_124 hl (k := 3) rfl (inc_nI k) (by decide) rfl (fun ls hl => ?_)
                refine lv_goto (tgt := 4) hx hb dX9_playersOf_127 (by decide) ?_
                exact ih4 (k + 1) (by omega) (by omega) _ (lv_sub hl [2, 3, 1, 0] rfl)
              · skip
                have c3 := b2i_1 c3
                refine lv_iconst (v := 1) hx hb dX9_playersOf_115 rfl ?_
                refine lv_iload_n hx hb dX9_playersOf_116 rfl (lv_at hl 3 rfl) ?_
                refine lv_ishl hx hb dX9_playersOf_117 ?_
                refine lv_goto (tgt := 122) hx hb dX9_playersOf_118 (by decide) ?_
                refine lv_ior hx hb dX9_playersOf_122 ?_
                refine top_i (x := (setB (fun k => allN (fun n => !decide (tl (64 + 5 * n) = i) || decide (frc (nI k) (tl (64 + 5 * n + 1)) (tl (64 + 5 * n + 2)) (tl (64 + 5 * n + 3)) = tl (64 + 5 * n + 4))) S) k) ||| (1 <<< ((nI k) &&& 31))) (y := setB (fun k => allN (fun n => !decide (tl (64 + 5 * n) = i) || decide (frc (nI k) (tl (64 + 5 * n + 1)) (tl (64 + 5 * n + 2)) (tl (64 + 5 * n + 3)) = tl (64 + 5 * n + 4))) S) (k + 1)) (setB_t (p := (fun k => allN (fun n => !decide (tl (64 + 5 * n) = i) || decide (frc (nI k) (tl (64 + 5 * n + 1)) (tl (64 + 5 * n + 2)) (tl (64 + 5 * n + 3)) = tl (64 + 5 * n + 4))) S)) c3) ?_
                refine lv_istore_n (lv' := [(2, .int (setB (fun k => allN (fun n => !decide (tl (64 + 5 * n) = i) || decide (frc (nI k) (tl (64 + 5 * n + 1)) (tl (64 + 5 * n + 2)) (tl (64 + 5 * n + 3)) = tl (64 + 5 * n + 4))) S) (k + 1))), (0, .ref (o 0)), (1, .int (i)), (3, .int (nI k)), (4, .int (b2i (allN (fun n => !decide (tl (64 + 5 * n) = i) || decide (frc (nI k) (tl (64 + 5 * n + 1)) (tl (64 + 5 * n + 2)) (tl (64 + 5 * n + 3)) = tl (64 + 5 * n + 4))) S)))]) hx hb dX9_playersOf_123 rfl hl (by decide) rfl (fun ls hl => ?_)
                refine lv_iinc (v := nI (k + 1)) (lv' := [(3, .int (nI (k + 1))), (2, .int (setB (fun k => allN (fun n => !decide (tl (64 + 5 * n) = i) || decide (frc (nI k) (tl (64 + 5 * n + 1)) (tl (64 + 5 * n + 2)) (tl (64 + 5 * n + 3)) = tl (64 + 5 * n + 4))) S) (k + 1))), (0, .ref (o 0)), (1, .int (i)), (4, .int (b2i (allN (fun n => !decide (tl (64 + 5 * n) = i) || decide (frc (nI k) (tl (64 + 5 * n + 1)) (tl (64 + 5 * n + 2)) (tl (64 + 5 * n + 3)) = tl (64 + 5 * n + 4))) S)))]) hx hb dX9_playersOf_124 hl (k := 3) rfl (inc_nI k) (by decide) rfl (fun ls hl => ?_)
                refine lv_goto (tgt := 4) hx hb dX9_playersOf_127 (by decide) ?_
                exact ih4 (k + 1) (by omega) (by omega) _ (lv_sub hl [2, 3, 1, 0] rfl)
            · skip
              have c2' := Int32.not_le.mp c2
              have hn9 : n < S := by rw [nI_leI (by omega) (by omega)] at c2; omega
              refine lv_bipush (v := 64) hx hb dX9_playersOf_28 rfl ?_
              refine lv_iconst (v := 5) hx hb dX9_playersOf_30 rfl ?_
              refine lv_iload hx hb dX9_playersOf_31 (lv_at hl 5 rfl) ?_
              refine lv_imul hx hb dX9_playersOf_33 ?_
              refine top_i (x := 5 * (nI n)) (y := nI (5 * n)) (show nI 5 * nI n = _ from pk_mul 5 n) ?_
              refine lv_iadd hx hb dX9_playersOf_34 ?_
              refine top_i (x := 64 + (nI (5 * n))) (y := nI (64 + 5 * n)) (show nI 64 + nI (5 * n) = _ from nI_add 64 (5 * n)) ?_
              refine lv_istore (lv' := [(6, .int (nI (64 + 5 * n))), (0, .ref (o 0)), (1, .int (i)), (2, .int (setB (fun k => allN (fun n => !decide (tl (64 + 5 * n) = i) || decide (frc (nI k) (tl (64 + 5 * n + 1)) (tl (64 + 5 * n + 2)) (tl (64 + 5 * n + 3)) = tl (64 + 5 * n + 4))) S) k)), (3, .int (nI k)), (4, .int (b2i (allN (fun n => !decide (tl (64 + 5 * n) = i) || decide (frc (nI k) (tl (64 + 5 * n + 1)) (tl (64 + 5 * n + 2)) (tl (64 + 5 * n + 3)) = tl (64 + 5 * n + 4))) n))), (5, .int (nI n))]) hx hb dX9_playersOf_35 hl (by decide) rfl (fun ls hl => ?_)
              refine lv_iload hx hb dX9_playersOf_37 (lv_at hl 5 rfl) ?_
              refine lv_if_eq (tgt := 100) hx hb dX9_playersOf_39 (by decide) (fun c4 => ?_) (fun c4 => ?_)
              · skip
                have c4 := b2i_0 c4
                refine lv_iconst (v := 0) hx hb dX9_playersOf_100 rfl ?_
                refine lv_istore (lv' := [(4, .int (0)), (6, .int (nI (64 + 5 * n))), (0, .ref (o 0)), (1, .int (i)), (2, .int (setB (fun k => allN (fun n => !decide (tl (64 + 5 * n) = i) || decide (frc (nI k) (tl (64 + 5 * n + 1)) (tl (64 + 5 * n + 2)) (tl (64 + 5 * n + 3)) = tl (64 + 5 * n + 4))) S) k)), (3, .int (nI k)), (5, .int (nI n))]) hx hb dX9_playersOf_101 hl (by decide) rfl (fun ls hl => ?_)
                refine lv_iinc (v := nI (n + 1)) (lv' := [(5, .int (nI (n + 1))), (4, .int (0)), (6, .int (nI (64 + 5 * n))), (0, .ref (o 0)), (1, .int (i)), (2, .int (setB (fun k => allN (fun n => !decide (tl (64 + 5 * n) = i) || decide (frc (nI k) (tl (64 + 5 * n + 1)) (tl (64 + 5 * n + 2)) (tl (64 + 5 * n + 3)) = tl (64 + 5 * n + 4))) S) k)), (3, .int (nI k))]) hx hb dX9_playersOf_103 hl (k := 6) rfl (inc_nI n) (by decide) rfl (fun ls hl => ?_)
                refine lv_goto (tgt := 16) hx hb dX9_playersOf_106 (by decide) ?_
                have e9 : b2i (allN (fun n => !decide (tl (64 + 5 * n) = i) || decide (frc (nI k) (tl (64 + 5 * n + 1)) (tl (64 + 5 * n + 2)) (tl (64 + 5 * n + 3)) = tl (64 + 5 * n + 4))) (n + 1)) = 0 := by simp [allN, b2i, hn, c2, c2', c4]
                have hl : lv_has ls 7 [(5, .int (nI (n + 1))), (4, .int (b2i (allN (fun n => !decide (tl (64 + 5 * n) = i) || decide (frc (nI k) (tl (64 + 5 * n + 1)) (tl (64 + 5 * n + 2)) (tl (64 + 5 * n + 3)) = tl (64 + 5 * n + 4))) (n + 1)))), (6, .int (nI (64 + 5 * n))), (0, .ref (o 0)), (1, .int (i)), (2, .int (setB (fun k => allN (fun n => !decide (tl (64 + 5 * n) = i) || decide (frc (nI k) (tl (64 + 5 * n + 1)) (tl (64 + 5 * n + 2)) (tl (64 + 5 * n + 3)) = tl (64 + 5 * n + 4))) S) k)), (3, .int (nI k))] := by rw [e9]; exact hl
                exact ih16 (n + 1) (by omega) (by omega) _ (lv_sub hl [3, 4, 5, 6, 1, 0] rfl)
              · skip
                have c4 := b2i_1 c4
                refine lv_aload_n hx hb dX9_playersOf_42 rfl (lv_at hl 1 rfl) ?_
                refine kget hC.1 hK (kP_app.mp hP).1 0 rfl rfl in_9 6 (by decide) (gw_in m_966 rfl) rfl dX9_playersOf_43 ?_
                refine lv_iload hx hb dX9_playersOf_46 (lv_at hl 0 rfl) ?_
                refine kald (v := tl (64 + 5 * n)) hC.1 hK (kP_app.mp (kP_app.mp (kP_app.mp hP).2).2).1 0 rfl (vp_in_nI (by omega) (by omega)) (by rw [cl_nI (by omega)]) dX9_playersOf_48 ?_
                refine lv_iload_n hx hb dX9_playersOf_49 rfl (lv_at hl 2 rfl) ?_
                refine lv_icmp_ne (tgt := 96) hx hb dX9_playersOf_50 (by decide) (fun c5 => ?_) (fun c5 => ?_)
                · skip
                  refine lv_iconst (v := 1) hx hb dX9_playersOf_96 rfl ?_
                  refine lv_goto (tgt := 101) hx hb dX9_playersOf_97 (by decide) ?_
                  refine lv_istore (lv' := [(4, .int (1)), (6, .int (nI (64 + 5 * n))), (0, .ref (o 0)), (1, .int (i)), (2, .int (setB (fun k => allN (fun n => !decide (tl (64 + 5 * n) = i) || decide (frc (nI k) (tl (64 + 5 * n + 1)) (tl (64 + 5 * n + 2)) (tl (64 + 5 * n + 3)) = tl (64 + 5 * n + 4))) S) k)), (3, .int (nI k)), (5, .int (nI n))]) hx hb dX9_playersOf_101 hl (by decide) rfl (fun ls hl => ?_)
                  refine lv_iinc (v := nI (n + 1)) (lv' := [(5, .int (nI (n + 1))), (4, .int (1)), (6, .int (nI (64 + 5 * n))), (0, .ref (o 0)), (1, .int (i)), (2, .int (setB (fun k => allN (fun n => !decide (tl (64 + 5 * n) = i) || decide (frc (nI k) (tl (64 + 5 * n + 1)) (tl (64 + 5 * n + 2)) (tl (64 + 5 * n + 3)) = tl (64 + 5 * n + 4))) S) k)), (3, .int (nI k))]) hx hb dX9_playersOf_103 hl (k := 6) rfl (inc_nI n) (by decide) rfl (fun ls hl => ?_)
                  refine lv_goto (tgt := 16) hx hb dX9_playersOf_106 (by decide) ?_
                  have e9 : b2i (allN (fun n => !decide (tl (64 + 5 * n) = i) || decide (frc (nI k) (tl (64 + 5 * n + 1)) (tl (64 + 5 * n + 2)) (tl (64 + 5 * n + 3)) = tl (64 + 5 * n + 4))) (n + 1)) = 1 := by simp [allN, b2i, hn, c2, c2', c4, c5]
                  have hl : lv_has ls 7 [(5, .int (nI (n + 1))), (4, .int (b2i (allN (fun n => !decide (tl (64 + 5 * n) = i) || decide (frc (nI k) (tl (64 + 5 * n + 1)) (tl (64 + 5 * n + 2)) (tl (64 + 5 * n + 3)) = tl (64 + 5 * n + 4))) (n + 1)))), (6, .int (nI (64 + 5 * n))), (0, .ref (o 0)), (1, .int (i)), (2, .int (setB (fun k => allN (fun n => !decide (tl (64 + 5 * n) = i) || decide (frc (nI k) (tl (64 + 5 * n + 1)) (tl (64 + 5 * n + 2)) (tl (64 + 5 * n + 3)) = tl (64 + 5 * n + 4))) S) k)), (3, .int (nI k))] := by rw [e9]; exact hl
                  exact ih16 (n + 1) (by omega) (by omega) _ (lv_sub hl [3, 4, 5, 6, 1, 0] rfl)
                · skip
                  refine lv_iload_n hx hb dX9_playersOf_53 rfl (lv_at hl 4 rfl) ?_
                  refine lv_aload_n hx hb dX9_playersOf_54 rfl (lv_at hl 1 rfl) ?_
                  refine kget hC.1 hK (kP_app.mp hP).1 0 rfl rfl in_9 6 (by decide) (gw_in m_966 rfl) rfl dX9_playersOf_55 ?_
                  refine lv_iload hx hb dX9_playersOf_58 (lv_at hl 0 rfl) ?_
                  refine lv_iconst (v := 1) hx hb dX9_playersOf_60 rfl ?_
                  refine lv_iadd hx hb dX9_playersOf_61 ?_
                  refine top_i (x := (nI (64 + 5 * n)) + 1) (y := nI (64 + 5 * n + 1)) (nI_add _ 1) ?_
                  refine kald (v := tl (64 + 5 * n + 1)) hC.1 hK (kP_app.mp (kP_app.mp (kP_app.mp hP).2).2).1 0 rfl (vp_in_nI (by omega) (by omega)) (by rw [cl_nI (by omega)]) dX9_playersOf_62 ?_
                  refine lv_aload_n hx hb dX9_playersOf_63 rfl (lv_at hl 1 rfl) ?_
                  refine kget hC.1 hK (kP_app.mp hP).1 0 rfl rfl in_9 6 (by decide) (gw_in m_966 rfl) rfl dX9_playersOf_64 ?_
                  refine lv_iload hx hb dX9_playersOf_67 (lv_at hl 0 rfl) ?_
                  refine lv_iconst (v := 2) hx hb dX9_playersOf_69 rfl ?_
                  refine lv_iadd hx hb dX9_playersOf_70 ?_
                  refine top_i (x := (nI (64 + 5 * n)) + 2) (y := nI (64 + 5 * n + 2)) (nI_add _ 2) ?_
                  refine kald (v := tl (64 + 5 * n + 2)) hC.1 hK (kP_app.mp (kP_app.mp (kP_app.mp hP).2).2).1 0 rfl (vp_in_nI (by omega) (by omega)) (by rw [cl_nI (by omega)]) dX9_playersOf_71 ?_
                  refine lv_aload_n hx hb dX9_playersOf_72 rfl (lv_at hl 1 rfl) ?_
                  refine kget hC.1 hK (kP_app.mp hP).1 0 rfl rfl in_9 6 (by decide) (gw_in m_966 rfl) rfl dX9_playersOf_73 ?_
                  refine lv_iload hx hb dX9_playersOf_76 (lv_at hl 0 rfl) ?_
                  refine lv_iconst (v := 3) hx hb dX9_playersOf_78 rfl ?_
                  refine lv_iadd hx hb dX9_playersOf_79 ?_
                  refine top_i (x := (nI (64 + 5 * n)) + 3) (y := nI (64 + 5 * n + 3)) (nI_add _ 3) ?_
                  refine kald (v := tl (64 + 5 * n + 3)) hC.1 hK (kP_app.mp (kP_app.mp (kP_app.mp hP).2).2).1 0 rfl (vp_in_nI (by omega) (by omega)) (by rw [cl_nI (by omega)]) dX9_playersOf_80 ?_
                  refine ro_i (run_S (As := [.int (nI k), .int (tl (64 + 5 * n + 1)), .int (tl (64 + 5 * n + 2)), .int (tl (64 + 5 * n + 3))]) (rest := []) hC.1 ckX9_forceBy (kX9_forceBy l (nI k) (tl (64 + 5 * n + 1)) (tl (64 + 5 * n + 2)) (tl (64 + 5 * n + 3))) (gw_in m_1151 rfl) (fb_nil _) (fun _ _ _ => trivial) ⟨rfl, rfl, Nat.le_of_ble_eq_true rfl, Nat.le_of_ble_eq_true rfl⟩ rfl hl.1 rfl (Nat.le_of_ble_eq_true rfl) dX9_playersOf_81 ⟨Nat.le_of_ble_eq_true rfl, Nat.le_of_ble_eq_true rfl⟩) ?_
                  refine lv_aload_n hx hb dX9_playersOf_84 rfl (lv_at hl 1 rfl) ?_
                  refine kget hC.1 hK (kP_app.mp hP).1 0 rfl rfl in_9 6 (by decide) (gw_in m_966 rfl) rfl dX9_playersOf_85 ?_
                  refine lv_iload hx hb dX9_playersOf_88 (lv_at hl 0 rfl) ?_
                  refine lv_iconst (v := 4) hx hb dX9_playersOf_90 rfl ?_
                  refine lv_iadd hx hb dX9_playersOf_91 ?_
                  refine top_i (x := (nI (64 + 5 * n)) + 4) (y := nI (64 + 5 * n + 4)) (nI_add _ 4) ?_
                  refine kald (v := tl (64 + 5 * n + 4)) hC.1 hK (kP_app.mp (kP_app.mp (kP_app.mp hP).2).2).1 0 rfl (vp_in_nI (by omega) (by omega)) (by rw [cl_nI (by omega)]) dX9_playersOf_92 ?_
                  refine lv_icmp_ne (tgt := 100) hx hb dX9_playersOf_93 (by decide) (fun c6 => ?_) (fun c6 => ?_)
                  · skip
                    refine lv_iconst (v := 0) hx hb dX9_playersOf_100 rfl ?_
                    refine lv_istore (lv' := [(4, .int (0)), (6, .int (nI (64 + 5 * n))), (0, .ref (o 0)), (1, .int (i)), (2, .int (setB (fun k => allN (fun n => !decide (tl (64 + 5 * n) = i) || decide (frc (nI k) (tl (64 + 5 * n + 1)) (tl (64 + 5 * n + 2)) (tl (64 + 5 * n + 3)) = tl (64 + 5 * n + 4))) S) k)), (3, .int (nI k)), (5, .int (nI n))]) hx hb dX9_playersOf_101 hl (by decide) rfl (fun ls hl => ?_)
                    refine lv_iinc (v := nI (n + 1)) (lv' := [(5, .int (nI (n + 1))), (4, .int (0)), (6, .int (nI (64 + 5 * n))), (0, .ref (o 0)), (1, .int (i)), (2, .int (setB (fun k => allN (fun n => !decide (tl (64 + 5 * n) = i) || decide (frc (nI k) (tl (64 + 5 * n + 1)) (tl (64 + 5 * n + 2)) (tl (64 + 5 * n + 3)) = tl (64 + 5 * n + 4))) S) k)), (3, .int (nI k))]) hx hb dX9_playersOf_103 hl (k := 6) rfl (inc_nI n) (by decide) rfl (fun ls hl => ?_)
                    refine lv_goto (tgt := 16) hx hb dX9_playersOf_106 (by decide) ?_
                    have e9 : b2i (allN (fun n => !decide (tl (64 + 5 * n) = i) || decide (frc (nI k) (tl (64 + 5 * n + 1)) (tl (64 + 5 * n + 2)) (tl (64 + 5 * n + 3)) = tl (64 + 5 * n + 4))) (n + 1)) = 0 := by simp [allN, b2i, hn, c2, c2', c4, c5, c6]
                    have hl : lv_has ls 7 [(5, .int (nI (n + 1))), (4, .int (b2i (allN (fun n => !decide (tl (64 + 5 * n) = i) || decide (frc (nI k) (tl (64 + 5 * n + 1)) (tl (64 + 5 * n + 2)) (tl (64 + 5 * n + 3)) = tl (64 + 5 * n + 4))) (n + 1)))), (6, .int (nI (64 + 5 * n))), (0, .ref (o 0)), (1, .int (i)), (2, .int (setB (fun k => allN (fun n => !decide (tl (64 + 5 * n) = i) || decide (frc (nI k) (tl (64 + 5 * n + 1)) (tl (64 + 5 * n + 2)) (tl (64 + 5 * n + 3)) = tl (64 + 5 * n + 4))) S) k)), (3, .int (nI k))] := by rw [e9]; exact hl
                    exact ih16 (n + 1) (by omega) (by omega) _ (lv_sub hl [3, 4, 5, 6, 1, 0] rfl)
                  · skip
                    refine lv_iconst (v := 1) hx hb dX9_playersOf_96 rfl ?_
                    refine lv_goto (tgt := 101) hx hb dX9_playersOf_97 (by decide) ?_
                    refine lv_istore (lv' := [(4, .int (1)), (6, .int (nI (64 + 5 * n))), (0, .ref (o 0)), (1, .int (i)), (2, .int (setB (fun k => allN (fun n => !decide (tl (64 + 5 * n) = i) || decide (frc (nI k) (tl (64 + 5 * n + 1)) (tl (64 + 5 * n + 2)) (tl (64 + 5 * n + 3)) = tl (64 + 5 * n + 4))) S) k)), (3, .int (nI k)), (5, .int (nI n))]) hx hb dX9_playersOf_101 hl (by decide) rfl (fun ls hl => ?_)
                    refine lv_iinc (v := nI (n + 1)) (lv' := [(5, .int (nI (n + 1))), (4, .int (1)), (6, .int (nI (64 + 5 * n))), (0, .ref (o 0)), (1, .int (i)), (2, .int (setB (fun k => allN (fun n => !decide (tl (64 + 5 * n) = i) || decide (frc (nI k) (tl (64 + 5 * n + 1)) (tl (64 + 5 * n + 2)) (tl (64 + 5 * n + 3)) = tl (64 + 5 * n + 4))) S) k)), (3, .int (nI k))]) hx hb dX9_playersOf_103 hl (k := 6) rfl (inc_nI n) (by decide) rfl (fun ls hl => ?_)
                    refine lv_goto (tgt := 16) hx hb dX9_playersOf_106 (by decide) ?_
                    have e9 : b2i (allN (fun n => !decide (tl (64 + 5 * n) = i) || decide (frc (nI k) (tl (64 + 5 * n + 1)) (tl (64 + 5 * n + 2)) (tl (64 + 5 * n + 3)) = tl (64 + 5 * n + 4))) (n + 1)) = 1 := by simp [allN, b2i, hn, c2, c2', c4, c5, c6]
                    have hl : lv_has ls 7 [(5, .int (nI (n + 1))), (4, .int (b2i (allN (fun n => !decide (tl (64 + 5 * n) = i) || decide (frc (nI k) (tl (64 + 5 * n + 1)) (tl (64 + 5 * n + 2)) (tl (64 + 5 * n + 3)) = tl (64 + 5 * n + 4))) (n + 1)))), (6, .int (nI (64 + 5 * n))), (0, .ref (o 0)), (1, .int (i)), (2, .int (setB (fun k => allN (fun n => !decide (tl (64 + 5 * n) = i) || decide (frc (nI k) (tl (64 + 5 * n + 1)) (tl (64 + 5 * n + 2)) (tl (64 + 5 * n + 3)) = tl (64 + 5 * n + 4))) S) k)), (3, .int (nI k))] := by rw [e9]; exact hl
                    exact ih16 (n + 1) (by omega) (by omega) _ (lv_sub hl [3, 4, 5, 6, 1, 0] rfl)
        exact cut16 _ 0 (Nat.lt_succ_self _) (by omega) _ (lv_sub hl [2, 3, 4, 5, 1, 0] rfl)
  exact cut4 _ 0 (Nat.lt_succ_self _) (by omega) _ (lv_sub hl [2, 3, 1, 0] rfl)
