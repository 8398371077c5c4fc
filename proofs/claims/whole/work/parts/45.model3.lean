theorem ckX9_copies : ckS yX9_copies cX9_copies 3 none 2 := ⟨(gw_in m_1177 rfl), (gw_in m_71 rfl), (gw_in m_1176 rfl), by decide +kernel, by decide +kernel, by decide +kernel⟩
theorem ckX9_bouts : ckS yX9_bouts cX9_bouts 6 (some .int) 4 := ⟨(gw_in m_1242 rfl), (gw_in m_71 rfl), (gw_in m_1241 rfl), by decide +kernel, by decide +kernel, by decide +kernel⟩
set_option maxHeartbeats 4000000 in
set_option maxRecDepth 100000 in
theorem kX9_copies (l : Launch) (g : gG) (a b : Nat) (r q : Nat → Int32) : Met l yX9_copies (.code yX9_copies cX9_copies 3 none :: gw) (rmN 0) (va_Pc [.ref (a), .ref (b)] (rwPre g (aW g a 45 r ++ (aW g b 45 q ++ [])))) (rwQv g (aW g a 45 r ++ (aW g b 45 q ++ [])) (aW g a 45 r ++ (aW g b 45 r ++ []))) 0 0 (dm (aW g a 45 r ++ (aW g b 45 q ++ []))) := by
  refine met_start (by decide) (Nat.le_of_ble_eq_true rfl) ?_
  intro pp ee ss mm bl mt cd hC hpre ls hl
  obtain ⟨⟨hx, hb, hml, hown, hts⟩, hr, hlk, hnm⟩ := id hC
  have hl : lv_has ls 3 [(0, .ref (a)), (1, .ref (b))] := hl
  obtain ⟨hP, hK, hD⟩ := hpre
  have hS : va_S (dm (aW g a 45 r ++ (aW g b 45 q ++ []))) ss.heap ss.heap [] := va_S.rf
  have hD := vD_self hD
  have hP : kP g (aW g a 45 r ++ (aW g b 45 (cpF r q 0) ++ [])) _ := kP_eq (by rw [cpF_0]) hP
  have hD : va_D _ (aW g a 45 r ++ (aW g b 45 (cpF r q 0) ++ [])) := vD_eq (by rw [cpF_0]) hD
  refine lv_iconst (v := 0) hx hb dX9_copies_0 rfl ?_
  refine lv_istore_n (lv' := [(2, .int (0)), (0, .ref (a)), (1, .ref (b))]) hx hb dX9_copies_1 rfl hl (by decide) rfl (fun ls hl => ?_)
  have cut2 : ∀ kk : Nat, ∀ (n : Nat), 46 - n < kk → (hn : n ≤ 45) → ∀ (H : Heap) (locs : List Loc), kP g (aW g a 45 r ++ (aW g b 45 (cpF r q n) ++ [])) H → va_D (dm (aW g a 45 r ++ (aW g b 45 q ++ []))) (aW g a 45 r ++ (aW g b 45 (cpF r q n) ++ [])) → va_S (dm (aW g a 45 r ++ (aW g b 45 q ++ []))) ss.heap H locs → ∀ (ls : Array Slot), lv_has ls 3 [(0, .ref (a)), (1, .ref (b)), (2, .int (nI n))] → W pp l ee (rmN 0) ss mm ([.ref (a), .ref (b)] : List Value).toArray bl mt cd H locs 0 0 (MQ bl (rwQv g (aW g a 45 r ++ (aW g b 45 q ++ [])) (aW g a 45 r ++ (aW g b 45 r ++ []))) ([.ref (a), .ref (b)] : List Value).toArray ss 0 0 (dm (aW g a 45 r ++ (aW g b 45 q ++ [])))) (F0 mm 2 ls []) := by
    intro kk
    induction kk with
    | zero => intro n hmu; exact absurd hmu (Nat.not_lt_zero _)
    | succ kk ih2 =>
      intro n hmu hn H locs hP hD hS ls hl
      refine lv_iload_n hx hb dX9_copies_2 rfl (lv_at hl 2 rfl) ?_
      refine lv_bipush (v := 45) hx hb dX9_copies_3 rfl ?_
      refine lv_icmp_ge (tgt := 20) hx hb dX9_copies_5 (by decide) (fun c1 => ?_) (fun c1 => ?_)
      · skip
        have c1' := Int32.not_lt.mpr c1
        have hn9 : n = 45 := by have := lp_ge (by omega) c1; rw [show (45 : Int32).toInt = 45 from rfl] at this; omega
        subst hn9
        exact ret_rwv hx hb hr hlk (kP_app.mpr ⟨(kP_app.mp hP).1, kP_new (aW_arr (fun j hj => cpF_in hj)) (kP_app.mp hP).2⟩) hS dX9_copies_20
      · skip
        have c1' := Int32.not_le.mp c1
        have hn9 : n < 45 := by have := lp_lt (by omega) c1; rw [show (45 : Int32).toInt = 45 from rfl] at this; omega
        refine lv_aload_n hx hb dX9_copies_8 rfl (lv_at hl 1 rfl) ?_
        refine lv_iload_n hx hb dX9_copies_9 rfl (lv_at hl 2 rfl) ?_
        refine lv_aload_n hx hb dX9_copies_10 rfl (lv_at hl 0 rfl) ?_
        refine lv_iload_n hx hb dX9_copies_11 rfl (lv_at hl 2 rfl) ?_
        refine kald (v := r n) hC.1 hK (kP_app.mp hP).1 0 rfl (vp_in_nI hn9 (by omega)) (by rw [cl_nI (by omega)]) dX9_copies_12 ?_
        have hP : kP g (aW g b 45 (cpF r q n) ++ (aW g a 45 r ++ [])) _ := kP_perm (pm_swap _ _ _) hP
        have hD : va_D _ (aW g b 45 (cpF r q n) ++ (aW g a 45 r ++ [])) := vD_perm (pm_swap _ _ _) hD
        refine kast (B' := aW g b 45 (upd (cpF r q n) n (r n))) hC.1 hK hP hD hS 0 rfl (vp_in_nI hn9 (by omega)) (fun _ h => by rw [cl_nI (by omega)] at h; exact h) aW_adr dX9_copies_13 (fun H locs hP hD hS => ?_)
        refine lv_iinc (v := nI (n + 1)) (lv' := [(2, .int (nI (n + 1))), (0, .ref (a)), (1, .ref (b))]) hx hb dX9_copies_14 hl (k := 2) rfl (inc_nI n) (by decide) rfl (fun ls hl => ?_)
        refine lv_goto (tgt := 2) hx hb dX9_copies_17 (by decide) ?_
        have hP : kP g (aW g b 45 (cpF r q (n + 1)) ++ (aW g a 45 r ++ [])) _ := kP_eq (by rw [show (cpF r q (n + 1)) = (upd (cpF r q n) n (r n)) from cpF_s]) hP
        have hD : va_D _ (aW g b 45 (cpF r q (n + 1)) ++ (aW g a 45 r ++ [])) := vD_eq (by rw [show (cpF r q (n + 1)) = (upd (cpF r q n) n (r n)) from cpF_s]) hD
        have hP : kP g (aW g a 45 r ++ (aW g b 45 (cpF r q (n + 1)) ++ [])) _ := kP_perm (pm_swap _ _ _) hP
        have hD : va_D _ (aW g a 45 r ++ (aW g b 45 (cpF r q (n + 1)) ++ [])) := vD_perm (pm_swap _ _ _) hD
        exact ih2 (n + 1) (by omega) (by omega) _ _ hP hD hS _ (lv_sub hl [1, 2, 0] rfl)
  exact cut2 _ 0 (Nat.lt_succ_self _) (by omega) _ _ hP hD hS _ (lv_sub hl [1, 2, 0] rfl)
set_option maxHeartbeats 4000000 in
set_option maxRecDepth 100000 in
theorem kX9_bouts (l : Launch) (g : gG) (a : Nat) (r : Nat → Int32) (i j : Int32) (b : Bool) (hw : Wf r) (hi : vp_in i 6) (hj : vp_in j 6) : Met l yX9_bouts (.code yX9_bouts cX9_bouts 6 (some .int) :: gw) (rmN 3) (va_Pc [.ref (a), .int (i), .int (j), .int (b2i b)] (rwPre g (aW g a 45 r ++ []))) (rwQi g (aW g a 45 r ++ []) (aW g a 45 (btF b i j 60 0 r).2 ++ []) (btX (btF b i j 60 0 r) i j)) 0 0 (dm (aW g a 45 r ++ [])) := by
  refine met_start (by decide) (Nat.le_of_ble_eq_true rfl) ?_
  intro pp ee ss mm bl mt cd hC hpre ls hl
  obtain ⟨⟨hx, hb, hml, hown, hts⟩, hr, hlk, hnm⟩ := id hC
  have hl : lv_has ls 6 [(0, .ref (a)), (1, .int (i)), (2, .int (j)), (3, .int (b2i b))] := hl
  obtain ⟨hP, hK, hD⟩ := hpre
  have hS : va_S (dm (aW g a 45 r ++ [])) ss.heap ss.heap [] := va_S.rf
  have hD := vD_self hD
  refine lv_iconst (v := 0) hx hb dX9_bouts_0 rfl ?_
  refine lv_istore (lv' := [(4, .int (0)), (0, .ref (a)), (1, .int (i)), (2, .int (j)), (3, .int (b2i b))]) hx hb dX9_bouts_1 hl (by decide) rfl (fun ls hl => ?_)
  have cut3 : ∀ kk : Nat, ∀ (n : Nat) (q : Nat → Int32), 61 - n < kk → (hn : n ≤ 60) → (hwq : Wf q) → (he : btF b i j (60 - n) n q = btF b i j 60 0 r) → ∀ (H : Heap) (locs : List Loc), kP g (aW g a 45 q ++ []) H → va_D (dm (aW g a 45 r ++ [])) (aW g a 45 q ++ []) → va_S (dm (aW g a 45 r ++ [])) ss.heap H locs → ∀ (ls : Array Slot), lv_has ls 6 [(0, .ref (a)), (1, .int (i)), (2, .int (j)), (3, .int (b2i b)), (4, .int (nI n))] → W pp l ee (rmN 3) ss mm ([.ref (a), .int (i), .int (j), .int (b2i b)] : List Value).toArray bl mt cd H locs 0 0 (MQ bl (rwQi g (aW g a 45 r ++ []) (aW g a 45 (btF b i j 60 0 r).2 ++ []) (btX (btF b i j 60 0 r) i j)) ([.ref (a), .int (i), .int (j), .int (b2i b)] : List Value).toArray ss 0 0 (dm (aW g a 45 r ++ []))) (F0 mm 3 ls []) := by
    intro kk
    induction kk with
    | zero => intro n q hmu; exact absurd hmu (Nat.not_lt_zero _)
    | succ kk ih3 =>
      intro n q hmu hn hwq he H locs hP hD hS ls hl
      refine lv_iload hx hb dX9_bouts_3 (lv_at hl 4 rfl) ?_
      refine lv_bipush (v := 60) hx hb dX9_bouts_5 rfl ?_
      refine lv_icmp_ge (tgt := 68) hx hb dX9_bouts_7 (by decide) (fun c1 => ?_) (fun c1 => ?_)
      · skip
        have c1' := Int32.not_lt.mpr c1
        have hn9 : 60 ≤ n := by have := lp_ge (by omega) c1; rw [show (60 : Int32).toInt = 60 from rfl] at this; omega
        have hfin := btF_end (b := b) (i := i) (j := j) (r := q) hn9
        refine lv_aload_n hx hb dX9_bouts_68 rfl (lv_at hl 0 rfl) ?_
        refine lv_iload_n hx hb dX9_bouts_69 rfl (lv_at hl 1 rfl) ?_
        refine ro_i (run_S (As := [.ref (a), .int (i)]) (rest := []) hC.1 ckX9_isBroken (kX9_isBroken l g a q i hi) (gw_in m_1133 rfl) (fb_ro _ _ _) (fun U hU hW => ⟨by rw [hU]; exact (kP_app.mp hP).1, kK_warm hW hK⟩) ⟨rfl, rfl, Nat.le_of_ble_eq_true rfl, Nat.le_of_ble_eq_true rfl⟩ rfl hl.1 rfl (Nat.le_of_ble_eq_true rfl) dX9_bouts_70 ⟨Nat.le_of_ble_eq_true rfl, Nat.le_of_ble_eq_true rfl⟩) ?_
        refine lv_if_ne (tgt := 84) hx hb dX9_bouts_73 (by decide) (fun c2 => ?_) (fun c2 => ?_)
        · skip
          have c2 := b2i_1 c2
          refine lv_iload hx hb dX9_bouts_84 (lv_at hl 4 rfl) ?_
          refine lv_goto (tgt := 90) hx hb dX9_bouts_86 (by decide) ?_
          exact ret_rwi hx hb hr hlk (by rw [← he, hfin]; unfold btX; simp [c1, c2]) (kP_eq (by rw [← he, hfin]) hP) hS dX9_bouts_90
        · skip
          have c2 := b2i_0 c2
          refine lv_aload_n hx hb dX9_bouts_76 rfl (lv_at hl 0 rfl) ?_
          refine lv_iload_n hx hb dX9_bouts_77 rfl (lv_at hl 2 rfl) ?_
          refine ro_i (run_S (As := [.ref (a), .int (j)]) (rest := []) hC.1 ckX9_isBroken (kX9_isBroken l g a q j hj) (gw_in m_1133 rfl) (fb_ro _ _ _) (fun U hU hW => ⟨by rw [hU]; exact (kP_app.mp hP).1, kK_warm hW hK⟩) ⟨rfl, rfl, Nat.le_of_ble_eq_true rfl, Nat.le_of_ble_eq_true rfl⟩ rfl hl.1 rfl (Nat.le_of_ble_eq_true rfl) dX9_bouts_78 ⟨Nat.le_of_ble_eq_true rfl, Nat.le_of_ble_eq_true rfl⟩) ?_
          refine lv_if_eq (tgt := 89) hx hb dX9_bouts_81 (by decide) (fun c3 => ?_) (fun c3 => ?_)
          · skip
            have c3 := b2i_0 c3
            refine lv_iconst (v := -1) hx hb dX9_bouts_89 rfl ?_
            exact ret_rwi hx hb hr hlk (by rw [← he, hfin]; unfold btX; simp [c1, c2, c3]) (kP_eq (by rw [← he, hfin]) hP) hS dX9_bouts_90
          · skip
            have c3 := b2i_1 c3
            refine lv_iload hx hb dX9_bouts_84 (lv_at hl 4 rfl) ?_
            refine lv_goto (tgt := 90) hx hb dX9_bouts_86 (by decide) ?_
            exact ret_rwi hx hb hr hlk (by rw [← he, hfin]; unfold btX; simp [c1, c2, c3]) (kP_eq (by rw [← he, hfin]) hP) hS dX9_bouts_90
      · skip
        have c1' := Int32.not_le.mp c1
        have hn9 : n < 60 := by have := lp_lt (by omega) c1; rw [show (60 : Int32).toInt = 60 from rfl] at this; omega
        refine lv_aload_n hx hb dX9_bouts_10 rfl (lv_at hl 0 rfl) ?_
        refine lv_iload_n hx hb dX9_bouts_11 rfl (lv_at hl 1 rfl) ?_
        refine lv_iload_n hx hb dX9_bouts_12 rfl (lv_at hl 2 rfl) ?_
        refine ro_i (run_S (As := [.ref (a), .int (i), .int (j)]) (rest := []) hC.1 ckX9_canStrike (kX9_canStrike l g a q i j hwq) (gw_in m_1136 rfl) (fb_ro _ _ _) (fun U hU hW => ⟨by rw [hU]; exact (kP_app.mp hP).1, kK_warm hW hK⟩) ⟨rfl, rfl, Nat.le_of_ble_eq_true rfl, Nat.le_of_ble_eq_true rfl⟩ rfl hl.1 rfl (Nat.le_of_ble_eq_true rfl) dX9_bouts_13 ⟨Nat.le_of_ble_eq_true rfl, Nat.le_of_ble_eq_true rfl⟩) ?_
        refine lv_if_eq (tgt := 68) hx hb dX9_bouts_16 (by decide) (fun c4 => ?_) (fun c4 => ?_)
        · skip
          have c4 := b2i_0 c4
          have hfin := btF_no (b := b) (n := n) c4
          refine lv_aload_n hx hb dX9_bouts_68 rfl (lv_at hl 0 rfl) ?_
          refine lv_iload_n hx hb dX9_bouts_69 rfl (lv_at hl 1 rfl) ?_
          refine ro_i (run_S (As := [.ref (a), .int (i)]) (rest := []) hC.1 ckX9_isBroken (kX9_isBroken l g a q i hi) (gw_in m_1133 rfl) (fb_ro _ _ _) (fun U hU hW => ⟨by rw [hU]; exact (kP_app.mp hP).1, kK_warm hW hK⟩) ⟨rfl, rfl, Nat.le_of_ble_eq_true rfl, Nat.le_of_ble_eq_true rfl⟩ rfl hl.1 rfl (Nat.le_of_ble_eq_true rfl) dX9_bouts_70 ⟨Nat.le_of_ble_eq_true rfl, Nat.le_of_ble_eq_true rfl⟩) ?_
          refine lv_if_ne (tgt := 84) hx hb dX9_bouts_73 (by decide) (fun c5 => ?_) (fun c5 => ?_)
          · skip
            have c5 := b2i_1 c5
            refine lv_iload hx hb dX9_bouts_84 (lv_at hl 4 rfl) ?_
            refine lv_goto (tgt := 90) hx hb dX9_bouts_86 (by decide) ?_
            exact ret_rwi hx hb hr hlk (by rw [← he, hfin]; unfold btX; simp [c1, c4, c5]) (kP_eq (by rw [← he, hfin]) hP) hS dX9_bouts_90
          · skip
            have c5 := b2i_0 c5
            refine lv_aload_n hx hb dX9_bouts_76 rfl (lv_at hl 0 rfl) ?_
            refine lv_iload_n hx hb dX9_bouts_77 rfl (lv_at hl 2 rfl) ?_
            refine ro_i (run_S (As := [.ref (a), .int (j)]) (rest := []) hC.1 ckX9_isBroken (kX9_isBroken l g a q j hj) (gw_in m_1133 rfl) (fb_ro _ _ _) (fun U hU hW => ⟨by rw [hU]; exact (kP_app.mp hP).1, kK_warm hW hK⟩) ⟨rfl, rfl, Nat.le_of_ble_eq_true rfl, Nat.le_of_ble_eq_true rfl⟩ rfl hl.1 rfl (Nat.le_of_ble_eq_true rfl) dX9_bouts_78 ⟨Nat.le_of_ble_eq_true rfl, Nat.le_of_ble_eq_true rfl⟩) ?_
            refine lv_if_eq (tgt := 89) hx hb dX9_bouts_81 (by decide) (fun c6 => ?_) (fun c6 => ?_)
            · skip
              have c6 := b2i_0 c6
              refine lv_iconst (v := -1) hx hb dX9_bouts_89 rfl ?_
              exact ret_rwi hx hb hr hlk (by rw [← he, hfin]; unfold btX; simp [c1, c4, c5, c6]) (kP_eq (by rw [← he, hfin]) hP) hS dX9_bouts_90
            · skip
              have c6 := b2i_1 c6
              refine lv_iload hx hb dX9_bouts_84 (lv_at hl 4 rfl) ?_
              refine lv_goto (tgt := 90) hx hb dX9_bouts_86 (by decide) ?_
              exact ret_rwi hx hb hr hlk (by rw [← he, hfin]; unfold btX; simp [c1, c4, c5, c6]) (kP_eq (by rw [← he, hfin]) hP) hS dX9_bouts_90
        · skip
          have c4 := b2i_1 c4
          have hcan := c4
          refine lv_iload_n hx hb dX9_bouts_19 rfl (lv_at hl 3 rfl) ?_
          refine lv_if_eq (tgt := 35) hx hb dX9_bouts_20 (by decide) (fun c7 => ?_) (fun c7 => ?_)
          · skip
            have c7 := b2i_0 c7
            refine lv_iconst (v := 0) hx hb dX9_bouts_35 rfl ?_
            refine lv_istore (lv' := [(5, .int (0)), (0, .ref (a)), (1, .int (i)), (2, .int (j)), (3, .int (b2i b)), (4, .int (nI n))]) hx hb dX9_bouts_36 hl (by decide) rfl (fun ls hl => ?_)
            have hk : fgk b n = false := by simp [fgk, c7]
            refine lv_aload_n hx hb dX9_bouts_38 rfl (lv_at hl 1 rfl) ?_
            refine lv_iload hx hb dX9_bouts_39 (lv_at hl 0 rfl) ?_
            refine lv_if_eq (tgt := 48) hx hb dX9_bouts_41 (by decide) (fun c8 => ?_) (fun c8 => ?_)
            · skip
              refine lv_iload_n hx hb dX9_bouts_48 rfl (lv_at hl 2 rfl) ?_
              refine lv_iload hx hb dX9_bouts_49 (lv_at hl 0 rfl) ?_
              refine lv_if_eq (tgt := 58) hx hb dX9_bouts_51 (by decide) (fun c9 => ?_) (fun c9 => ?_)
              · skip
                refine lv_iload_n hx hb dX9_bouts_58 rfl (lv_at hl 3 rfl) ?_
                refine rw_v (run_S (As := [.ref (a), .int (i), .int (j)]) (rest := []) hC.1 ckX9_struck (kX9_struck l g a q i j hwq hcan) (gw_in m_1142 rfl) (fb_rw _ _ _) (fun U hU hW => ⟨by rw [hU]; exact (kP_app.mpr ⟨(kP_app.mp hP).1, kP_nil⟩), kK_warm hW hK, vD_sub (sbA _ (sb0 _)) hD⟩) ⟨rfl, rfl, Nat.le_of_ble_eq_true rfl, Nat.le_of_ble_eq_true rfl⟩ rfl hl.1 rfl (Nat.le_of_ble_eq_true rfl) dX9_bouts_59 ⟨Nat.le_of_ble_eq_true rfl, Nat.le_of_ble_eq_true rfl⟩) (adr_app aW_adr rfl) (asc1 _ _) (ww' := aW g a 45 (stk q i j) ++ []) (asc1 _ _) hP hD hS (fun H locs hP hD hS => ?_)
                have hP : kP g (aW g a 45 (fgs b i j n q) ++ []) _ := kP_eq (by unfold fgs; rw [if_neg (by rw [hk]; decide)]) hP
                have hD : va_D _ (aW g a 45 (fgs b i j n q) ++ []) := vD_eq (by unfold fgs; rw [if_neg (by rw [hk]; decide)]) hD
                have hws : Wf (fgs b i j n q) := Wf_fgsM hwq hcan
                refine lv_iinc (v := nI (n + 1)) (lv' := [(4, .int (nI (n + 1))), (5, .int (0)), (0, .ref (a)), (1, .int (i)), (2, .int (j)), (3, .int (b2i b))]) hx hb dX9_bouts_62 hl (k := 5) rfl (inc_nI n) (by decide) rfl (fun ls hl => ?_)
                refine lv_goto (tgt := 3) hx hb dX9_bouts_65 (by decide) ?_
                exact ih3 (n + 1) (fgs b i j n q) (by omega) (by omega) hws ((btF_go hn9 hcan).symm.trans he) _ _ hP hD hS _ (lv_sub hl [2, 3, 4, 5, 0] rfl)
              · skip
                exact absurd c9 (by decide)
            · skip
              exact absurd c8 (by decide)
          · skip
            have c7 := b2i_1 c7
            refine lv_iload hx hb dX9_bouts_23 (lv_at hl 4 rfl) ?_
            refine lv_iconst (v := 2) hx hb dX9_bouts_25 rfl ?_
            refine lv_irem hx hb dX9_bouts_26 (by decide) ?_
            refine top_i (x := (nI n) - (nI n) / 2 * 2) (y := nI (n % 2)) (pk_rem (d := 2) (by omega) (by omega) (by omega)) ?_
            refine lv_iconst (v := 1) hx hb dX9_bouts_27 rfl ?_
            refine lv_icmp_ne (tgt := 35) hx hb dX9_bouts_28 (by decide) (fun c10 => ?_) (fun c10 => ?_)
            · skip
              have hpar : ¬ n % 2 = 1 := by intro z; rw [z] at c10; exact c10 rfl
              refine lv_iconst (v := 0) hx hb dX9_bouts_35 rfl ?_
              refine lv_istore (lv' := [(5, .int (0)), (0, .ref (a)), (1, .int (i)), (2, .int (j)), (3, .int (b2i b)), (4, .int (nI n))]) hx hb dX9_bouts_36 hl (by decide) rfl (fun ls hl => ?_)
              have hk : fgk b n = false := by simp [fgk, c7, hpar]
              refine lv_aload_n hx hb dX9_bouts_38 rfl (lv_at hl 1 rfl) ?_
              refine lv_iload hx hb dX9_bouts_39 (lv_at hl 0 rfl) ?_
              refine lv_if_eq (tgt := 48) hx hb dX9_bouts_41 (by decide) (fun c11 => ?_) (fun c11 => ?_)
              · skip
                refine lv_iload_n hx hb dX9_bouts_48 rfl (lv_at hl 2 rfl) ?_
                refine lv_iload hx hb dX9_bouts_49 (lv_at hl 0 rfl) ?_
                refine lv_if_eq (tgt := 58) hx hb dX9_bouts_51 (by decide) (fun c12 => ?_) (fun c12 => ?_)
                · skip
                  refine lv_iload_n hx hb dX9_bouts_58 rfl (lv_at hl 3 rfl) ?_
                  refine rw_v (run_S (As := [.ref (a), .int (i), .int (j)]) (rest := []) hC.1 ckX9_struck (kX9_struck l g a q i j hwq hcan) (gw_in m_1142 rfl) (fb_rw _ _ _) (fun U hU hW => ⟨by rw [hU]; exact (kP_app.mpr ⟨(kP_app.mp hP).1, kP_nil⟩), kK_warm hW hK, vD_sub (sbA _ (sb0 _)) hD⟩) ⟨rfl, rfl, Nat.le_of_ble_eq_true rfl, Nat.le_of_ble_eq_true rfl⟩ rfl hl.1 rfl (Nat.le_of_ble_eq_true rfl) dX9_bouts_59 ⟨Nat.le_of_ble_eq_true rfl, Nat.le_of_ble_eq_true rfl⟩) (adr_app aW_adr rfl) (asc1 _ _) (ww' := aW g a 45 (stk q i j) ++ []) (asc1 _ _) hP hD hS (fun H locs hP hD hS => ?_)
                  have hP : kP g (aW g a 45 (fgs b i j n q) ++ []) _ := kP_eq (by unfold fgs; rw [if_neg (by rw [hk]; decide)]) hP
                  have hD : va_D _ (aW g a 45 (fgs b i j n q) ++ []) := vD_eq (by unfold fgs; rw [if_neg (by rw [hk]; decide)]) hD
                  have hws : Wf (fgs b i j n q) := Wf_fgsM hwq hcan
                  refine lv_iinc (v := nI (n + 1)) (lv' := [(4, .int (nI (n + 1))), (5, .int (0)), (0, .ref (a)), (1, .int (i)), (2, .int (j)), (3, .int (b2i b))]) hx hb dX9_bouts_62 hl (k := 5) rfl (inc_nI n) (by decide) rfl (fun ls hl => ?_)
                  refine lv_goto (tgt := 3) hx hb dX9_bouts_65 (by decide) ?_
                  exact ih3 (n + 1) (fgs b i j n q) (by omega) (by omega) hws ((btF_go hn9 hcan).symm.trans he) _ _ hP hD hS _ (lv_sub hl [2, 3, 4, 5, 0] rfl)
                · skip
                  exact absurd c12 (by decide)
              · skip
                exact absurd c11 (by decide)
            · skip
              have hpar : n % 2 = 1 := by rw [show (1 : Int32) = nI 1 from rfl, nI_eq (by omega) (by omega)] at c10; exact c10
              refine lv_iconst (v := 1) hx hb dX9_bouts_31 rfl ?_
              refine lv_goto (tgt := 36) hx hb dX9_bouts_32 (by decide) ?_
              refine lv_istore (lv' := [(5, .int (1)), (0, .ref (a)), (1, .int (i)), (2, .int (j)), (3, .int (b2i b)), (4, .int (nI n))]) hx hb dX9_bouts_36 hl (by decide) rfl (fun ls hl => ?_)
              have hk : fgk b n = true := by simp [fgk, c7, hpar]
              refine lv_aload_n hx hb dX9_bouts_38 rfl (lv_at hl 1 rfl) ?_
              refine lv_iload hx hb dX9_bouts_39 (lv_at hl 0 rfl) ?_
              refine lv_if_eq (tgt := 48) hx hb dX9_bouts_41 (by decide) (fun c13 => ?_) (fun c13 => ?_)
              · skip
                exact absurd c13 (by decide)
              · skip
                refine lv_iload_n hx hb dX9_bouts_44 rfl (lv_at hl 3 rfl) ?_
                refine lv_goto (tgt := 49) hx hb dX9_bouts_45 (by decide) ?_
                refine lv_iload hx hb dX9_bouts_49 (lv_at hl 0 rfl) ?_
                refine lv_if_eq (tgt := 58) hx hb dX9_bouts_51 (by decide) (fun c14 => ?_) (fun c14 => ?_)
                · skip
                  exact absurd c14 (by decide)
                · skip
                  refine lv_iload_n hx hb dX9_bouts_54 rfl (lv_at hl 2 rfl) ?_
                  refine lv_goto (tgt := 59) hx hb dX9_bouts_55 (by decide) ?_
                  refine rw_v (run_S (As := [.ref (a), .int (j), .int (i)]) (rest := []) hC.1 ckX9_struck (kX9_struck l g a q j i hwq (yCan_sym hcan)) (gw_in m_1142 rfl) (fb_rw _ _ _) (fun U hU hW => ⟨by rw [hU]; exact (kP_app.mpr ⟨(kP_app.mp hP).1, kP_nil⟩), kK_warm hW hK, vD_sub (sbA _ (sb0 _)) hD⟩) ⟨rfl, rfl, Nat.le_of_ble_eq_true rfl, Nat.le_of_ble_eq_true rfl⟩ rfl hl.1 rfl (Nat.le_of_ble_eq_true rfl) dX9_bouts_59 ⟨Nat.le_of_ble_eq_true rfl, Nat.le_of_ble_eq_true rfl⟩) (adr_app aW_adr rfl) (asc1 _ _) (ww' := aW g a 45 (stk q j i) ++ []) (asc1 _ _) hP hD hS (fun H locs hP hD hS => ?_)
                  have hP : kP g (aW g a 45 (fgs b i j n q) ++ []) _ := kP_eq (by unfold fgs; rw [if_pos hk]) hP
                  have hD : va_D _ (aW g a 45 (fgs b i j n q) ++ []) := vD_eq (by unfold fgs; rw [if_pos hk]) hD
                  have hws : Wf (fgs b i j n q) := Wf_fgsM hwq hcan
                  refine lv_iinc (v := nI (n + 1)) (lv' := [(4, .int (nI (n + 1))), (5, .int (1)), (0, .ref (a)), (1, .int (i)), (2, .int (j)), (3, .int (b2i b))]) hx hb dX9_bouts_62 hl (k := 5) rfl (inc_nI n) (by decide) rfl (fun ls hl => ?_)
                  refine lv_goto (tgt := 3) hx hb dX9_bouts_65 (by decide) ?_
                  exact ih3 (n + 1) (fgs b i j n q) (by omega) (by omega) hws ((btF_go hn9 hcan).symm.trans he) _ _ hP hD hS _ (lv_sub hl [2, 3, 4, 5, 0] rfl)
  exact cut3 _ 0 r (Nat.lt_succ_self _) (by omega) hw rfl _ _ hP hD hS _ (lv_sub hl [1, 2, 3, 4, 0] rfl)
