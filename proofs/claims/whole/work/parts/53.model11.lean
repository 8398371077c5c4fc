theorem ckX9_remember : ckV yX9_remember cX9_remember 2 none 0 := ⟨(gw_in m_1193 rfl), (gw_in m_71 rfl), ⟨(gw_in m_1192 rfl), (gw_in m_47 rfl)⟩, by decide +kernel, by decide +kernel, by decide +kernel⟩
theorem ckX9_undo : ckV yX9_undo cX9_undo 2 (some .int) 0 := ⟨(gw_in m_1205 rfl), (gw_in m_71 rfl), ⟨(gw_in m_1203 rfl), (gw_in m_1204 rfl)⟩, by decide +kernel, by decide +kernel, by decide +kernel⟩
set_option maxHeartbeats 4000000 in
set_option maxRecDepth 100000 in
theorem kX9_remember (l : Launch) (g : gG) (o : Nat → Nat) (ab be : Int64) (lm ra ta : Nat) (ti fa : Int32) (um ua : Nat) (hh : Int64) (r ud : Nat → Int32) (hu : ua < 8) (hm : um ≤ 8) : Met l yX9_remember (.code yX9_remember cX9_remember 2 none :: gw) (rmN 0) (va_Pc [.ref (o 0)] (rwPre g (mO g o ab be lm ra ta ti fa um ua hh ++ (aW g (o 2) 45 r ++ (aW g (o 7) 360 ud ++ []))))) (rwQv g (mO g o ab be lm ra ta ti fa um ua hh ++ (aW g (o 2) 45 r ++ (aW g (o 7) 360 ud ++ []))) (mO g o ab be lm ra ta ti fa (if um < 8 then um + 1 else um) ((ua + 1) % 8) hh ++ (aW g (o 2) 45 r ++ (aW g (o 7) 360 (va_cpy r ud 0 (45 * ua) 45) ++ [])))) 0 0 (dm (mO g o ab be lm ra ta ti fa um ua hh ++ (aW g (o 2) 45 r ++ (aW g (o 7) 360 ud ++ [])))) := by
  refine met_start (by decide) (Nat.le_of_ble_eq_true rfl) ?_
  intro pp ee ss mm bl mt cd hC hpre ls hl
  obtain ⟨⟨hx, hb, hml, hown, hts⟩, hr, hlk, hnm⟩ := id hC
  have hl : lv_has ls 2 [(0, .ref (o 0))] := hl
  obtain ⟨hP, hK, hD⟩ := hpre
  have hS : va_S (dm (mO g o ab be lm ra ta ti fa um ua hh ++ (aW g (o 2) 45 r ++ (aW g (o 7) 360 ud ++ [])))) ss.heap ss.heap [] := va_S.rf
  have hD := vD_self hD
  have hP : kP g (mO g o ab be lm ra ta ti fa um ua hh ++ (aW g (o 2) 45 r ++ (aW g (o 7) 360 (va_cpy r ud 0 (45 * ua) 0) ++ []))) _ := kP_eq (by rw [cpy_0]) hP
  have hD : va_D _ (mO g o ab be lm ra ta ti fa um ua hh ++ (aW g (o 2) 45 r ++ (aW g (o 7) 360 (va_cpy r ud 0 (45 * ua) 0) ++ []))) := vD_eq (by rw [cpy_0]) hD
  refine lv_iconst (v := 0) hx hb dX9_remember_0 rfl ?_
  refine lv_istore_n (lv' := [(1, .int (0)), (0, .ref (o 0))]) hx hb dX9_remember_1 rfl hl (by decide) rfl (fun ls hl => ?_)
  have cut2 : ∀ kk : Nat, ∀ (n : Nat), 46 - n < kk → (hn : n ≤ 45) → ∀ (H : Heap) (locs : List Loc), kP g (mO g o ab be lm ra ta ti fa um ua hh ++ (aW g (o 2) 45 r ++ (aW g (o 7) 360 (va_cpy r ud 0 (45 * ua) n) ++ []))) H → va_D (dm (mO g o ab be lm ra ta ti fa um ua hh ++ (aW g (o 2) 45 r ++ (aW g (o 7) 360 ud ++ [])))) (mO g o ab be lm ra ta ti fa um ua hh ++ (aW g (o 2) 45 r ++ (aW g (o 7) 360 (va_cpy r ud 0 (45 * ua) n) ++ []))) → va_S (dm (mO g o ab be lm ra ta ti fa um ua hh ++ (aW g (o 2) 45 r ++ (aW g (o 7) 360 ud ++ [])))) ss.heap H locs → ∀ (ls : Array Slot), lv_has ls 2 [(0, .ref (o 0)), (1, .int (nI n))] → W pp l ee (rmN 0) ss mm ([.ref (o 0)] : List Value).toArray bl mt cd H locs 0 0 (MQ bl (rwQv g (mO g o ab be lm ra ta ti fa um ua hh ++ (aW g (o 2) 45 r ++ (aW g (o 7) 360 ud ++ []))) (mO g o ab be lm ra ta ti fa (if um < 8 then um + 1 else um) ((ua + 1) % 8) hh ++ (aW g (o 2) 45 r ++ (aW g (o 7) 360 (va_cpy r ud 0 (45 * ua) 45) ++ [])))) ([.ref (o 0)] : List Value).toArray ss 0 0 (dm (mO g o ab be lm ra ta ti fa um ua hh ++ (aW g (o 2) 45 r ++ (aW g (o 7) 360 ud ++ []))))) (F0 mm 2 ls []) := by
    intro kk
    induction kk with
    | zero => intro n hmu; exact absurd hmu (Nat.not_lt_zero _)
    | succ kk ih2 =>
      intro n hmu hn H locs hP hD hS ls hl
      refine lv_iload_n hx hb dX9_remember_2 rfl (lv_at hl 1 rfl) ?_
      refine lv_bipush (v := 45) hx hb dX9_remember_3 rfl ?_
      refine lv_icmp_ge (tgt := 34) hx hb dX9_remember_5 (by decide) (fun c1 => ?_) (fun c1 => ?_)
      · skip
        have c1' := Int32.not_lt.mpr c1
        have hn9 : n = 45 := by have := lp_ge (by omega) c1; rw [show (45 : Int32).toInt = 45 from rfl] at this; omega
        subst hn9
        refine lv_aload_n hx hb dX9_remember_34 rfl (lv_at hl 0 rfl) ?_
        refine lv_aload_n hx hb dX9_remember_35 rfl (lv_at hl 0 rfl) ?_
        refine kget hC.1 hK (kP_app.mp hP).1 0 rfl rfl in_9 14 (by decide) (gw_in m_974 rfl) rfl dX9_remember_36 ?_
        refine lv_iconst (v := 1) hx hb dX9_remember_39 rfl ?_
        refine lv_iadd hx hb dX9_remember_40 ?_
        refine top_i (x := (nI ua) + 1) (y := nI (ua + 1)) (nI_1 ua) ?_
        refine lv_bipush (v := 8) hx hb dX9_remember_41 rfl ?_
        refine lv_irem hx hb dX9_remember_43 (by decide) ?_
        refine top_i (x := (nI (ua + 1)) - (nI (ua + 1)) / 8 * 8) (y := nI ((ua + 1) % 8)) (pk_rem (d := 8) (by omega) (by omega) (by omega)) ?_
        refine kput (B' := mO g o ab be lm ra ta ti fa um ((ua + 1) % 8) hh) hC.1 hK hP hD hS 0 rfl rfl in_9 tyX9 tyX9_ok nmX9 14 (by decide) (gw_in m_974 rfl) rfl (ty := .int) (by decide +kernel) rfl rfl (Nat.le_of_ble_eq_true rfl) (fun _ h => h) mO_adr dX9_remember_44 (fun H locs hP hD hS => ?_)
        refine lv_aload_n hx hb dX9_remember_47 rfl (lv_at hl 0 rfl) ?_
        refine lv_dup hx hb dX9_remember_48 rfl ?_
        refine kget hC.1 hK (kP_app.mp hP).1 0 rfl rfl in_9 13 (by decide) (gw_in m_973 rfl) rfl dX9_remember_49 ?_
        refine lv_aload_n hx hb dX9_remember_52 rfl (lv_at hl 0 rfl) ?_
        refine kget hC.1 hK (kP_app.mp hP).1 0 rfl rfl in_9 13 (by decide) (gw_in m_973 rfl) rfl dX9_remember_53 ?_
        refine lv_bipush (v := 8) hx hb dX9_remember_56 rfl ?_
        refine lv_icmp_ge (tgt := 65) hx hb dX9_remember_58 (by decide) (fun c2 => ?_) (fun c2 => ?_)
        · skip
          have c2' := Int32.not_lt.mpr c2
          have hu8 : ¬ um < 8 := by rw [show (8 : Int32) = nI 8 from rfl, nI_leI (by omega) (by omega)] at c2; omega
          refine lv_iconst (v := 0) hx hb dX9_remember_65 rfl ?_
          refine lv_iadd hx hb dX9_remember_66 ?_
          refine top_i (x := (nI um) + 0) (y := nI um) (Int32.add_zero _) ?_
          refine kput (B' := mO g o ab be lm ra ta ti fa um ((ua + 1) % 8) hh) hC.1 hK hP hD hS 0 rfl rfl in_9 tyX9 tyX9_ok nmX9 13 (by decide) (gw_in m_973 rfl) rfl (ty := .int) (by decide +kernel) rfl rfl (Nat.le_of_ble_eq_true rfl) (fun _ h => h) rfl dX9_remember_67 (fun H locs hP hD hS => ?_)
          exact ret_rwv hx hb hr hlk (kP_eq (by rw [if_neg hu8]) hP) hS dX9_remember_70
        · skip
          have c2' := Int32.not_le.mp c2
          have hu8 : um < 8 := by rw [show (8 : Int32) = nI 8 from rfl, nI_leI (by omega) (by omega)] at c2; omega
          refine lv_iconst (v := 1) hx hb dX9_remember_61 rfl ?_
          refine lv_goto (tgt := 66) hx hb dX9_remember_62 (by decide) ?_
          refine lv_iadd hx hb dX9_remember_66 ?_
          refine top_i (x := (nI um) + 1) (y := nI (um + 1)) (nI_1 um) ?_
          refine kput (B' := mO g o ab be lm ra ta ti fa (um + 1) ((ua + 1) % 8) hh) hC.1 hK hP hD hS 0 rfl rfl in_9 tyX9 tyX9_ok nmX9 13 (by decide) (gw_in m_973 rfl) rfl (ty := .int) (by decide +kernel) rfl rfl (Nat.le_of_ble_eq_true rfl) (fun _ h => h) mO_adr dX9_remember_67 (fun H locs hP hD hS => ?_)
          exact ret_rwv hx hb hr hlk (kP_eq (by rw [if_pos hu8]) hP) hS dX9_remember_70
      · skip
        have c1' := Int32.not_le.mp c1
        have hn9 : n < 45 := by have := lp_lt (by omega) c1; rw [show (45 : Int32).toInt = 45 from rfl] at this; omega
        refine lv_aload_n hx hb dX9_remember_8 rfl (lv_at hl 0 rfl) ?_
        refine kget hC.1 hK (kP_app.mp hP).1 0 rfl rfl in_9 15 (by decide) (gw_in m_975 rfl) rfl dX9_remember_9 ?_
        refine lv_bipush (v := 45) hx hb dX9_remember_12 rfl ?_
        refine lv_aload_n hx hb dX9_remember_14 rfl (lv_at hl 0 rfl) ?_
        refine kget hC.1 hK (kP_app.mp hP).1 0 rfl rfl in_9 14 (by decide) (gw_in m_974 rfl) rfl dX9_remember_15 ?_
        refine lv_imul hx hb dX9_remember_18 ?_
        refine top_i (x := 45 * (nI ua)) (y := nI (45 * ua)) (by rw [show (45 : Int32) = nI 45 from rfl, pk_mul]) ?_
        refine lv_iload_n hx hb dX9_remember_19 rfl (lv_at hl 1 rfl) ?_
        refine lv_iadd hx hb dX9_remember_20 ?_
        refine top_i (x := (nI (45 * ua)) + (nI n)) (y := nI (45 * ua + n)) (nI_add _ _) ?_
        refine lv_aload_n hx hb dX9_remember_21 rfl (lv_at hl 0 rfl) ?_
        refine kget hC.1 hK (kP_app.mp hP).1 0 rfl rfl in_9 3 (by decide) (gw_in m_963 rfl) rfl dX9_remember_22 ?_
        refine lv_iload_n hx hb dX9_remember_25 rfl (lv_at hl 1 rfl) ?_
        refine kald (v := r n) hC.1 hK (kP_app.mp (kP_app.mp hP).2).1 0 rfl (vp_in_nI hn9 (by omega)) (by rw [cl_nI (by omega)]) dX9_remember_26 ?_
        have hP : kP g (aW g (o 7) 360 (va_cpy r ud 0 (45 * ua) n) ++ (mO g o ab be lm ra ta ti fa um ua hh ++ (aW g (o 2) 45 r ++ []))) _ := kP_perm ((pmA _ (pm_swap _ _ _)).trans (pm_swap _ _ _)) hP
        have hD : va_D _ (aW g (o 7) 360 (va_cpy r ud 0 (45 * ua) n) ++ (mO g o ab be lm ra ta ti fa um ua hh ++ (aW g (o 2) 45 r ++ []))) := vD_perm ((pmA _ (pm_swap _ _ _)).trans (pm_swap _ _ _)) hD
        refine kast (B' := aW g (o 7) 360 (upd (va_cpy r ud 0 (45 * ua) n) (45 * ua + n) (r n))) hC.1 hK hP hD hS 0 rfl (vp_in_nI (by omega) (by omega)) (fun _ h => by rw [cl_nI (by omega)] at h; exact h) aW_adr dX9_remember_27 (fun H locs hP hD hS => ?_)
        refine lv_iinc (v := nI (n + 1)) (lv' := [(1, .int (nI (n + 1))), (0, .ref (o 0))]) hx hb dX9_remember_28 hl (k := 1) rfl (inc_nI n) (by decide) rfl (fun ls hl => ?_)
        refine lv_goto (tgt := 2) hx hb dX9_remember_31 (by decide) ?_
        have hP : kP g (aW g (o 7) 360 (va_cpy r ud 0 (45 * ua) (n + 1)) ++ (mO g o ab be lm ra ta ti fa um ua hh ++ (aW g (o 2) 45 r ++ []))) _ := kP_eq (by rw [show (va_cpy r ud 0 (45 * ua) (n + 1)) = (upd (va_cpy r ud 0 (45 * ua) n) (45 * ua + n) (r n)) from cpy_s]) hP
        have hD : va_D _ (aW g (o 7) 360 (va_cpy r ud 0 (45 * ua) (n + 1)) ++ (mO g o ab be lm ra ta ti fa um ua hh ++ (aW g (o 2) 45 r ++ []))) := vD_eq (by rw [show (va_cpy r ud 0 (45 * ua) (n + 1)) = (upd (va_cpy r ud 0 (45 * ua) n) (45 * ua + n) (r n)) from cpy_s]) hD
        have hP : kP g (mO g o ab be lm ra ta ti fa um ua hh ++ (aW g (o 2) 45 r ++ (aW g (o 7) 360 (va_cpy r ud 0 (45 * ua) (n + 1)) ++ []))) _ := kP_perm ((pm_swap _ _ _).trans (pmA _ (pm_swap _ _ _))) hP
        have hD : va_D _ (mO g o ab be lm ra ta ti fa um ua hh ++ (aW g (o 2) 45 r ++ (aW g (o 7) 360 (va_cpy r ud 0 (45 * ua) (n + 1)) ++ []))) := vD_perm ((pm_swap _ _ _).trans (pmA _ (pm_swap _ _ _))) hD
        exact ih2 (n + 1) (by omega) (by omega) _ _ hP hD hS _ (lv_sub hl [1, 0] rfl)
  exact cut2 _ 0 (Nat.lt_succ_self _) (by omega) _ _ hP hD hS _ (lv_sub hl [1, 0] rfl)
set_option maxHeartbeats 4000000 in
set_option maxRecDepth 100000 in
theorem kX9_undo (l : Launch) (g : gG) (o : Nat → Nat) (ab be : Int64) (lm ra ta : Nat) (ti fa : Int32) (um ua : Nat) (hh : Int64) (rf : Nat → Int32) (r ud : Nat → Int32) (hu : ua < 8) (hm : um ≤ 8) : Met l yX9_undo (.code yX9_undo cX9_undo 2 (some .int) :: gw) (rmN 1) (va_Pc [.ref (o 0)] (rwPre g (mO g o ab be lm ra ta ti fa um ua hh ++ (aW g (o 1) 3 rf ++ (aW g (o 2) 45 r ++ (aW g (o 7) 360 ud ++ [])))))) (rwQi g (mO g o ab be lm ra ta ti fa um ua hh ++ (aW g (o 1) 3 rf ++ (aW g (o 2) 45 r ++ (aW g (o 7) 360 ud ++ [])))) (mO g o ab be lm ra ta ti fa (um - 1) (if um = 0 then ua else ((ua + 8 - 1) % 8)) hh ++ (aW g (o 1) 3 (if um = 0 then upd rf 1 (rf 1 + 1) else rf) ++ (aW g (o 2) 45 (if um = 0 then r else (fun k => ud (45 * ((ua + 8 - 1) % 8) + k))) ++ (aW g (o 7) 360 ud ++ [])))) (if um = 0 then -3 else ud (45 * ((ua + 8 - 1) % 8) + 0))) 0 0 (dm (mO g o ab be lm ra ta ti fa um ua hh ++ (aW g (o 1) 3 rf ++ (aW g (o 2) 45 r ++ (aW g (o 7) 360 ud ++ []))))) := by
  refine met_start (by decide) (Nat.le_of_ble_eq_true rfl) ?_
  intro pp ee ss mm bl mt cd hC hpre ls hl
  obtain ⟨⟨hx, hb, hml, hown, hts⟩, hr, hlk, hnm⟩ := id hC
  have hl : lv_has ls 2 [(0, .ref (o 0))] := hl
  obtain ⟨hP, hK, hD⟩ := hpre
  have hS : va_S (dm (mO g o ab be lm ra ta ti fa um ua hh ++ (aW g (o 1) 3 rf ++ (aW g (o 2) 45 r ++ (aW g (o 7) 360 ud ++ []))))) ss.heap ss.heap [] := va_S.rf
  have hD := vD_self hD
  refine lv_aload_n hx hb dX9_undo_0 rfl (lv_at hl 0 rfl) ?_
  refine kget hC.1 hK (kP_app.mp hP).1 0 rfl rfl in_9 13 (by decide) (gw_in m_973 rfl) rfl dX9_undo_1 ?_
  refine lv_if_ne (tgt := 12) hx hb dX9_undo_4 (by decide) (fun c1 => ?_) (fun c1 => ?_)
  · skip
    have hu0 : ¬ um = 0 := fun e => c1 (by rw [e]; rfl)
    refine lv_aload_n hx hb dX9_undo_12 rfl (lv_at hl 0 rfl) ?_
    refine lv_aload_n hx hb dX9_undo_13 rfl (lv_at hl 0 rfl) ?_
    refine kget hC.1 hK (kP_app.mp hP).1 0 rfl rfl in_9 14 (by decide) (gw_in m_974 rfl) rfl dX9_undo_14 ?_
    refine lv_bipush (v := 8) hx hb dX9_undo_17 rfl ?_
    refine lv_iadd hx hb dX9_undo_19 ?_
    refine top_i (x := (nI ua) + 8) (y := nI (ua + 8)) (nI_add ua 8) ?_
    refine lv_iconst (v := 1) hx hb dX9_undo_20 rfl ?_
    refine lv_isub hx hb dX9_undo_21 ?_
    refine top_i (x := (nI (ua + 8)) - 1) (y := nI (ua + 8 - 1)) (show nI (ua + 8) - nI 1 = _ from pk_sub (by omega)) ?_
    refine lv_bipush (v := 8) hx hb dX9_undo_22 rfl ?_
    refine lv_irem hx hb dX9_undo_24 (by decide) ?_
    refine top_i (x := (nI (ua + 8 - 1)) - (nI (ua + 8 - 1)) / 8 * 8) (y := nI ((ua + 8 - 1) % 8)) (pk_rem (d := 8) (by omega) (by omega) (by omega)) ?_
    refine kput (B' := mO g o ab be lm ra ta ti fa um ((ua + 8 - 1) % 8) hh) hC.1 hK hP hD hS 0 rfl rfl in_9 tyX9 tyX9_ok nmX9 14 (by decide) (gw_in m_974 rfl) rfl (ty := .int) (by decide +kernel) rfl rfl (Nat.le_of_ble_eq_true rfl) (fun _ h => h) mO_adr dX9_undo_25 (fun H locs hP hD hS => ?_)
    refine lv_aload_n hx hb dX9_undo_28 rfl (lv_at hl 0 rfl) ?_
    refine lv_dup hx hb dX9_undo_29 rfl ?_
    refine kget hC.1 hK (kP_app.mp hP).1 0 rfl rfl in_9 13 (by decide) (gw_in m_973 rfl) rfl dX9_undo_30 ?_
    refine lv_iconst (v := 1) hx hb dX9_undo_33 rfl ?_
    refine lv_isub hx hb dX9_undo_34 ?_
    refine top_i (x := (nI um) - 1) (y := nI (um - 1)) (show nI um - nI 1 = _ from pk_sub (by omega)) ?_
    refine kput (B' := mO g o ab be lm ra ta ti fa (um - 1) ((ua + 8 - 1) % 8) hh) hC.1 hK hP hD hS 0 rfl rfl in_9 tyX9 tyX9_ok nmX9 13 (by decide) (gw_in m_973 rfl) rfl (ty := .int) (by decide +kernel) rfl rfl (Nat.le_of_ble_eq_true rfl) (fun _ h => h) mO_adr dX9_undo_35 (fun H locs hP hD hS => ?_)
    have hP : kP g (mO g o ab be lm ra ta ti fa (um - 1) ((ua + 8 - 1) % 8) hh ++ (aW g (o 1) 3 rf ++ (aW g (o 2) 45 (cpF (fun k => ud (45 * ((ua + 8 - 1) % 8) + k)) r 0) ++ (aW g (o 7) 360 ud ++ [])))) _ := kP_eq (by rw [cpF_0]) hP
    have hD : va_D _ (mO g o ab be lm ra ta ti fa (um - 1) ((ua + 8 - 1) % 8) hh ++ (aW g (o 1) 3 rf ++ (aW g (o 2) 45 (cpF (fun k => ud (45 * ((ua + 8 - 1) % 8) + k)) r 0) ++ (aW g (o 7) 360 ud ++ [])))) := vD_eq (by rw [cpF_0]) hD
    refine lv_iconst (v := 0) hx hb dX9_undo_38 rfl ?_
    refine lv_istore_n (lv' := [(1, .int (0)), (0, .ref (o 0))]) hx hb dX9_undo_39 rfl hl (by decide) rfl (fun ls hl => ?_)
    have cut40 : ∀ kk : Nat, ∀ (n : Nat), 46 - n < kk → (hn : n ≤ 45) → ∀ (H : Heap) (locs : List Loc), kP g (mO g o ab be lm ra ta ti fa (um - 1) ((ua + 8 - 1) % 8) hh ++ (aW g (o 1) 3 rf ++ (aW g (o 2) 45 (cpF (fun k => ud (45 * ((ua + 8 - 1) % 8) + k)) r n) ++ (aW g (o 7) 360 ud ++ [])))) H → va_D (dm (mO g o ab be lm ra ta ti fa um ua hh ++ (aW g (o 1) 3 rf ++ (aW g (o 2) 45 r ++ (aW g (o 7) 360 ud ++ []))))) (mO g o ab be lm ra ta ti fa (um - 1) ((ua + 8 - 1) % 8) hh ++ (aW g (o 1) 3 rf ++ (aW g (o 2) 45 (cpF (fun k => ud (45 * ((ua + 8 - 1) % 8) + k)) r n) ++ (aW g (o 7) 360 ud ++ [])))) → va_S (dm (mO g o ab be lm ra ta ti fa um ua hh ++ (aW g (o 1) 3 rf ++ (aW g (o 2) 45 r ++ (aW g (o 7) 360 ud ++ []))))) ss.heap H locs → ∀ (ls : Array Slot), lv_has ls 2 [(0, .ref (o 0)), (1, .int (nI n))] → W pp l ee (rmN 1) ss mm ([.ref (o 0)] : List Value).toArray bl mt cd H locs 0 0 (MQ bl (rwQi g (mO g o ab be lm ra ta ti fa um ua hh ++ (aW g (o 1) 3 rf ++ (aW g (o 2) 45 r ++ (aW g (o 7) 360 ud ++ [])))) (mO g o ab be lm ra ta ti fa (um - 1) (if um = 0 then ua else ((ua + 8 - 1) % 8)) hh ++ (aW g (o 1) 3 (if um = 0 then upd rf 1 (rf 1 + 1) else rf) ++ (aW g (o 2) 45 (if um = 0 then r else (fun k => ud (45 * ((ua + 8 - 1) % 8) + k))) ++ (aW g (o 7) 360 ud ++ [])))) (if um = 0 then -3 else ud (45 * ((ua + 8 - 1) % 8) + 0))) ([.ref (o 0)] : List Value).toArray ss 0 0 (dm (mO g o ab be lm ra ta ti fa um ua hh ++ (aW g (o 1) 3 rf ++ (aW g (o 2) 45 r ++ (aW g (o 7) 360 ud ++ [])))))) (F0 mm 40 ls []) := by
      intro kk
      induction kk with
      | zero => intro n hmu; exact absurd hmu (Nat.not_lt_zero _)
      | succ kk ih40 =>
        intro n hmu hn H locs hP hD hS ls hl
        refine lv_iload_n hx hb dX9_undo_40 rfl (lv_at hl 1 rfl) ?_
        refine lv_bipush (v := 45) hx hb dX9_undo_41 rfl ?_
        refine lv_icmp_ge (tgt := 72) hx hb dX9_undo_43 (by decide) (fun c2 => ?_) (fun c2 => ?_)
        · skip
          have c2' := Int32.not_lt.mpr c2
          have hn9 : n = 45 := by have := lp_ge (by omega) c2; rw [show (45 : Int32).toInt = 45 from rfl] at this; omega
          subst hn9
          have hP : kP g (aW g (o 2) 45 (cpF (fun k => ud (45 * ((ua + 8 - 1) % 8) + k)) r 45) ++ (mO g o ab be lm ra ta ti fa (um - 1) ((ua + 8 - 1) % 8) hh ++ (aW g (o 1) 3 rf ++ (aW g (o 7) 360 ud ++ [])))) _ := kP_perm ((pmA _ (pm_swap _ _ _)).trans (pm_swap _ _ _)) hP
          have hD : va_D _ (aW g (o 2) 45 (cpF (fun k => ud (45 * ((ua + 8 - 1) % 8) + k)) r 45) ++ (mO g o ab be lm ra ta ti fa (um - 1) ((ua + 8 - 1) % 8) hh ++ (aW g (o 1) 3 rf ++ (aW g (o 7) 360 ud ++ [])))) := vD_perm ((pmA _ (pm_swap _ _ _)).trans (pm_swap _ _ _)) hD
          have hP : kP g (aW g (o 2) 45 (fun k => ud (45 * ((ua + 8 - 1) % 8) + k)) ++ (mO g o ab be lm ra ta ti fa (um - 1) ((ua + 8 - 1) % 8) hh ++ (aW g (o 1) 3 rf ++ (aW g (o 7) 360 ud ++ [])))) _ := kP_new (aW_arr (f := cpF (fun k => ud (45 * ((ua + 8 - 1) % 8) + k)) r 45) (h := (fun k => ud (45 * ((ua + 8 - 1) % 8) + k))) (fun j hj => cpF_in (r := (fun k => ud (45 * ((ua + 8 - 1) % 8) + k))) (q := r) hj)) hP
          have hD : va_D _ (aW g (o 2) 45 (fun k => ud (45 * ((ua + 8 - 1) % 8) + k)) ++ (mO g o ab be lm ra ta ti fa (um - 1) ((ua + 8 - 1) % 8) hh ++ (aW g (o 1) 3 rf ++ (aW g (o 7) 360 ud ++ [])))) := vD_adr (adr_app aW_adr rfl) hD
          refine lv_aload_n hx hb dX9_undo_72 rfl (lv_at hl 0 rfl) ?_
          refine kget hC.1 hK (kP_app.mp (kP_app.mp hP).2).1 0 rfl rfl in_9 3 (by decide) (gw_in m_963 rfl) rfl dX9_undo_73 ?_
          refine lv_iconst (v := 0) hx hb dX9_undo_76 rfl ?_
          refine kald (v := ud (45 * ((ua + 8 - 1) % 8) + 0)) hC.1 hK (kP_app.mp hP).1 0 rfl (show vp_in (nI 0) 45 from vp_in_nI (by omega) (by omega)) rfl dX9_undo_77 ?_
          have hP : kP g (mO g o ab be lm ra ta ti fa (um - 1) ((ua + 8 - 1) % 8) hh ++ (aW g (o 1) 3 rf ++ (aW g (o 2) 45 (fun k => ud (45 * ((ua + 8 - 1) % 8) + k)) ++ (aW g (o 7) 360 ud ++ [])))) _ := kP_perm ((pm_swap _ _ _).trans (pmA _ (pm_swap _ _ _))) hP
          have hD : va_D _ (mO g o ab be lm ra ta ti fa (um - 1) ((ua + 8 - 1) % 8) hh ++ (aW g (o 1) 3 rf ++ (aW g (o 2) 45 (fun k => ud (45 * ((ua + 8 - 1) % 8) + k)) ++ (aW g (o 7) 360 ud ++ [])))) := vD_perm ((pm_swap _ _ _).trans (pmA _ (pm_swap _ _ _))) hD
          exact ret_rwi hx hb hr hlk (by rw [if_neg hu0]) (kP_eq (by rw [if_neg hu0, if_neg hu0, if_neg hu0]) hP) hS dX9_undo_78
        · skip
          have c2' := Int32.not_le.mp c2
          have hn9 : n < 45 := by have := lp_lt (by omega) c2; rw [show (45 : Int32).toInt = 45 from rfl] at this; omega
          refine lv_aload_n hx hb dX9_undo_46 rfl (lv_at hl 0 rfl) ?_
          refine kget hC.1 hK (kP_app.mp hP).1 0 rfl rfl in_9 3 (by decide) (gw_in m_963 rfl) rfl dX9_undo_47 ?_
          refine lv_iload_n hx hb dX9_undo_50 rfl (lv_at hl 1 rfl) ?_
          refine lv_aload_n hx hb dX9_undo_51 rfl (lv_at hl 0 rfl) ?_
          refine kget hC.1 hK (kP_app.mp hP).1 0 rfl rfl in_9 15 (by decide) (gw_in m_975 rfl) rfl dX9_undo_52 ?_
          refine lv_bipush (v := 45) hx hb dX9_undo_55 rfl ?_
          refine lv_aload_n hx hb dX9_undo_57 rfl (lv_at hl 0 rfl) ?_
          refine kget hC.1 hK (kP_app.mp hP).1 0 rfl rfl in_9 14 (by decide) (gw_in m_974 rfl) rfl dX9_undo_58 ?_
          refine lv_imul hx hb dX9_undo_61 ?_
          refine top_i (x := 45 * (nI ((ua + 8 - 1) % 8))) (y := nI (45 * ((ua + 8 - 1) % 8))) (by rw [show (45 : Int32) = nI 45 from rfl, pk_mul]) ?_
          refine lv_iload_n hx hb dX9_undo_62 rfl (lv_at hl 1 rfl) ?_
          refine lv_iadd hx hb dX9_undo_63 ?_
          refine top_i (x := (nI (45 * ((ua + 8 - 1) % 8))) + (nI n)) (y := nI (45 * ((ua + 8 - 1) % 8) + n)) (nI_add _ _) ?_
          refine kald (v := ud (45 * ((ua + 8 - 1) % 8) + n)) hC.1 hK (kP_app.mp (kP_app.mp (kP_app.mp (kP_app.mp hP).2).2).2).1 0 rfl (vp_in_nI (by omega) (by omega)) (by rw [cl_nI (by omega)]) dX9_undo_64 ?_
          have hP : kP g (aW g (o 2) 45 (cpF (fun k => ud (45 * ((ua + 8 - 1) % 8) + k)) r n) ++ (mO g o ab be lm ra ta ti fa (um - 1) ((ua + 8 - 1) % 8) hh ++ (aW g (o 1) 3 rf ++ (aW g (o 7) 360 ud ++ [])))) _ := kP_perm ((pmA _ (pm_swap _ _ _)).trans (pm_swap _ _ _)) hP
          have hD : va_D _ (aW g (o 2) 45 (cpF (fun k => ud (45 * ((ua + 8 - 1) % 8) + k)) r n) ++ (mO g o ab be lm ra ta ti fa (um - 1) ((ua + 8 - 1) % 8) hh ++ (aW g (o 1) 3 rf ++ (aW g (o 7) 360 ud ++ [])))) := vD_perm ((pmA _ (pm_swap _ _ _)).trans (pm_swap _ _ _)) hD
          refine kast (B' := aW g (o 2) 45 (upd (cpF (fun k => ud (45 * ((ua + 8 - 1) % 8) + k)) r n) n (ud (45 * ((ua + 8 - 1) % 8) + n)))) hC.1 hK hP hD hS 0 rfl (vp_in_nI hn9 (by omega)) (fun _ h => by rw [cl_nI (by omega)] at h; exact h) aW_adr dX9_undo_65 (fun H locs hP hD hS => ?_)
          refine lv_iinc (v := nI (n + 1)) (lv' := [(1, .int (nI (n + 1))), (0, .ref (o 0))]) hx hb dX9_undo_66 hl (k := 1) rfl (inc_nI n) (by decide) rfl (fun ls hl => ?_)
          refine lv_goto (tgt := 40) hx hb dX9_undo_69 (by decide) ?_
          have hP : kP g (aW g (o 2) 45 (cpF (fun k => ud (45 * ((ua + 8 - 1) % 8) + k)) r (n + 1)) ++ (mO g o ab be lm ra ta ti fa (um - 1) ((ua + 8 - 1) % 8) hh ++ (aW g (o 1) 3 rf ++ (aW g (o 7) 360 ud ++ [])))) _ := kP_eq (by rw [show (cpF (fun k => ud (45 * ((ua + 8 - 1) % 8) + k)) r (n + 1)) = (upd (cpF (fun k => ud (45 * ((ua + 8 - 1) % 8) + k)) r n) n (ud (45 * ((ua + 8 - 1) % 8) + n))) from cpF_s]) hP
          have hD : va_D _ (aW g (o 2) 45 (cpF (fun k => ud (45 * ((ua + 8 - 1) % 8) + k)) r (n + 1)) ++ (mO g o ab be lm ra ta ti fa (um - 1) ((ua + 8 - 1) % 8) hh ++ (aW g (o 1) 3 rf ++ (aW g (o 7) 360 ud ++ [])))) := vD_eq (by rw [show (cpF (fun k => ud (45 * ((ua + 8 - 1) % 8) + k)) r (n + 1)) = (upd (cpF (fun k => ud (45 * ((ua + 8 - 1) % 8) + k)) r n) n (ud (45 * ((ua + 8 - 1) % 8) + n))) from cpF_s]) hD
          have hP : kP g (mO g o ab be lm ra ta ti fa (um - 1) ((ua + 8 - 1) % 8) hh ++ (aW g (o 1) 3 rf ++ (aW g (o 2) 45 (cpF (fun k => ud (45 * ((ua + 8 - 1) % 8) + k)) r (n + 1)) ++ (aW g (o 7) 360 ud ++ [])))) _ := kP_perm ((pm_swap _ _ _).trans (pmA _ (pm_swap _ _ _))) hP
          have hD : va_D _ (mO g o ab be lm ra ta ti fa (um - 1) ((ua + 8 - 1) % 8) hh ++ (aW g (o 1) 3 rf ++ (aW g (o 2) 45 (cpF (fun k => ud (45 * ((ua + 8 - 1) % 8) + k)) r (n + 1)) ++ (aW g (o 7) 360 ud ++ [])))) := vD_perm ((pm_swap _ _ _).trans (pmA _ (pm_swap _ _ _))) hD
          exact ih40 (n + 1) (by omega) (by omega) _ _ hP hD hS _ (lv_sub hl [1, 0] rfl)
    exact cut40 _ 0 (Nat.lt_succ_self _) (by omega) _ _ hP hD hS _ (lv_sub hl [1, 0] rfl)
  · skip
    have hu0 : um = 0 := by rw [show (0 : Int32) = nI 0 from rfl, nI_eq (by omega) (by omega)] at c1; exact c1
    refine lv_aload_n hx hb dX9_undo_7 rfl (lv_at hl 0 rfl) ?_
    refine rw_i (run_V (As := []) (rest := []) hC.1 ckX9_no (kX9_no l g o ab be lm ra ta ti fa um ua hh rf) (gw_in m_1186 rfl) (fb_rw _ _ _) (va_recv hK.1 (kP_app.mp hP).1 (q0 := 0) rfl rfl) (fun U hU hW => ⟨by rw [hU]; exact (kP_app.mpr ⟨(kP_app.mp hP).1, (kP_app.mpr ⟨(kP_app.mp (kP_app.mp hP).2).1, kP_nil⟩)⟩), kK_warm hW hK, vD_sub (sbA _ (sbA _ (sb0 _))) hD⟩) ⟨rfl, rfl, Nat.le_of_ble_eq_true rfl, Nat.le_of_ble_eq_true rfl⟩ rfl hl.1 rfl (Nat.le_of_ble_eq_true rfl) dX9_undo_8 ⟨Nat.le_of_ble_eq_true rfl, Nat.le_of_ble_eq_true rfl⟩) (adr_app rfl (adr_app aW_adr rfl)) (asc2 _ _ _) (ww' := mO g o ab be lm ra ta ti fa um ua hh ++ (aW g (o 1) 3 (upd rf 1 (rf 1 + 1)) ++ (aW g (o 2) 45 r ++ (aW g (o 7) 360 ud ++ [])))) (asc2 _ _ _) hP hD hS (fun H locs hP hD hS => ?_)
    exact ret_rwi hx hb hr hlk (by rw [if_pos hu0]) (kP_eq (by rw [if_pos hu0, if_pos hu0, if_pos hu0, hu0]) hP) hS dX9_undo_11
