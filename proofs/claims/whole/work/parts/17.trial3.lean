theorem ckX6_waysToBreak : ckV yX6_waysToBreak cX6_waysToBreak 11 (some .long) 5 := ⟨(gw_in m_859 rfl), (gw_in m_69 rfl), ⟨(gw_in m_857 rfl), (gw_in m_858 rfl)⟩, by decide +kernel, by decide +kernel, by decide +kernel⟩
theorem ckX6_brokenBehindDays : ckV yX6_brokenBehindDays cX6_brokenBehindDays 9 (some .int) 3 := ⟨(gw_in m_881 rfl), (gw_in m_69 rfl), ⟨(gw_in m_879 rfl), (gw_in m_880 rfl)⟩, by decide +kernel, by decide +kernel, by decide +kernel⟩
theorem ckX6_isChoice : ckS yX6_isChoice cX6_isChoice 4 (some .boolean) 4 := ⟨(gw_in m_835 rfl), (gw_in m_69 rfl), (gw_in m_834 rfl), by decide +kernel, by decide +kernel, by decide +kernel⟩
theorem ckX6_getsBy : ckV yX6_getsBy cX6_getsBy 5 (some .int) 2 := ⟨(gw_in m_843 rfl), (gw_in m_69 rfl), ⟨(gw_in m_842 rfl), (gw_in m_26 rfl)⟩, by decide +kernel, by decide +kernel, by decide +kernel⟩
theorem ckX6_weigh : ckV yX6_weigh cX6_weigh 5 none 2 := ⟨(gw_in m_839 rfl), (gw_in m_69 rfl), ⟨(gw_in m_838 rfl), (gw_in m_25 rfl)⟩, by decide +kernel, by decide +kernel, by decide +kernel⟩
theorem ckX6_restingPair : ckV yX6_restingPair cX6_restingPair 2 (some .int) 1 := ⟨(gw_in m_851 rfl), (gw_in m_69 rfl), ⟨(gw_in m_849 rfl), (gw_in m_850 rfl)⟩, by decide +kernel, by decide +kernel, by decide +kernel⟩
theorem ckX6_inOrder : ckV yX6_inOrder cX6_inOrder 2 (some .int) 1 := ⟨(gw_in m_710 rfl), (gw_in m_69 rfl), ⟨(gw_in m_708 rfl), (gw_in m_709 rfl)⟩, by decide +kernel, by decide +kernel, by decide +kernel⟩
theorem ckX6_rests : ckV yX6_rests cX6_rests 10 (some .boolean) 4 := ⟨(gw_in m_847 rfl), (gw_in m_69 rfl), ⟨(gw_in m_846 rfl), (gw_in m_27 rfl)⟩, by decide +kernel, by decide +kernel, by decide +kernel⟩
theorem pw64 {N : Nat} (h : N ≤ 6) : 2 ^ N ≤ 64 := by
  match N, h with
  | 0, _ => decide | 1, _ => decide | 2, _ => decide | 3, _ => decide | 4, _ => decide | 5, _ => decide | 6, _ => decide
theorem shl1 {N : Nat} (h : N ≤ 6) : (1 : Int32) <<< (nI N &&& 31) = nI (2 ^ N) := by
  match N, h with
  | 0, _ => decide | 1, _ => decide | 2, _ => decide | 3, _ => decide | 4, _ => decide | 5, _ => decide | 6, _ => decide
theorem wth_nI {n m : Nat} (h : n ≤ m) (hm : m < 2147483648 := by omega) : wth (nI n) 0 (nI m) = true := by
  simp only [wth, Bool.and_eq_true, decide_eq_true_eq, Int32.le_iff_toInt_le, nI_ti (show n < 2147483648 by omega), nI_ti hm, Int32.toInt_zero]
  omega
theorem wth_ti {k : Int32} {lo hi : Int32} : wth k lo hi = true ↔ lo.toInt ≤ k.toInt ∧ k.toInt ≤ hi.toInt := by
  simp only [wth, Bool.and_eq_true, decide_eq_true_eq, Int32.le_iff_toInt_le]
theorem wth_in35 {k : Int32} (h : wth k 0 35 = true) : vp_in k 36 := by
  rw [wth_ti, show (0 : Int32).toInt = 0 from rfl, show (35 : Int32).toInt = 35 from rfl] at h
  rw [vp_in_iff]; omega
theorem wth_in5 {k : Int32} (h : wth k 0 5 = true) : vp_in k 6 := by
  rw [wth_ti, show (0 : Int32).toInt = 0 from rfl, show (5 : Int32).toInt = 5 from rfl] at h
  rw [vp_in_iff]; omega
def wbF (r : Nat → Int32) (i j d : Int32) (N : Nat) : Nat → Int64
  | 0 => 0
  | n + 1 => if yBrk (swF r i j d (nI n) N).2 j = true then (if yWhl (swF r i j d (nI n) N).2 i = true then wbF r i j d N n + (swF r i j d (nI n) N).1 else wbF r i j d N n) else wbF r i j d N n
/-- days -/
def lcg (x : Int64) : Int64 := (x * 1103515245 + 12345) - (x * 1103515245 + 12345) / 2147483648 * 2147483648
def diI (x : Int64) : Int32 := (x / 65536 - x / 65536 / 6 * 6).toInt32
def djI (x : Int64) : Int32 := (x / 1048576 - x / 1048576 / 6 * 6).toInt32
def dyS (q : Nat → Int32) (x : Int64) : Nat → Int32 := if yCan q (diI x) (djI x) = true then stk q (diI x) (djI x) else pasF q
theorem Wf_dyS {q : Nat → Int32} {x : Int64} (h : Wf q) : Wf (dyS q x) := by
  unfold dyS
  by_cases hc : yCan q (diI x) (djI x) = true
  · rw [if_pos hc]; exact Wf_stk h (yCan_nut hc).1 (yCan_nut hc).2
  · rw [if_neg hc]; exact Wf_pasF h
def dyF (r : Nat → Int32) (x : Int32) : Nat → Int64 × (Nat → Int32)
  | 0 => (x.toInt64, r)
  | n + 1 => (lcg (dyF r x n).1, dyS (dyF r x n).2 (lcg (dyF r x n).1))
theorem Wf_dyF {r : Nat → Int32} {x : Int32} (h : Wf r) : ∀ n, Wf (dyF r x n).2
  | 0 => h
  | n + 1 => Wf_dyS (Wf_dyF h n)
/-- pairs -/
def chB (r : Nat → Int32) (p q : Int32) (n : Nat) : Bool := yWof r (nI (n / 6)) p && yWof r (nI (n % 6)) q
def gtB (rg r : Nat → Int32) (i : Int32) : Int32 := 3 * (yFact rg i 5 - yFact r i 5) - (yFact rg i 4 - yFact r i 4)
def rsK (r : Nat → Int32) (p q : Int32) (p3 p4 : Nat → Int32) (n o : Nat) : Bool := !(yWof r (nI o) p && decide (p3 n < p3 (6 * o + n % 6))) && !(yWof r (nI o) q && decide (p4 n < p4 (6 * (n / 6) + o)))
def rsB (r : Nat → Int32) (p q : Int32) (p3 p4 : Nat → Int32) (n : Nat) : Bool := (List.range 6).all (rsK r p q p3 p4 n)
theorem rsB_t {r : Nat → Int32} {p q : Int32} {p3 p4 : Nat → Int32} {n : Nat} (h : ∀ z, z < 6 → rsK r p q p3 p4 n z = true) : rsB r p q p3 p4 n = true := List.all_eq_true.mpr fun z hz => h z (List.mem_range.mp hz)
theorem rsB_f {r : Nat → Int32} {p q : Int32} {p3 p4 : Nat → Int32} {n o : Nat} (ho : o < 6) (h : rsK r p q p3 p4 n o = false) : rsB r p q p3 p4 n = false := by
  apply Bool.eq_false_iff.mpr
  intro z
  have := List.all_eq_true.mp z o (List.mem_range.mpr ho)
  rw [h] at this
  exact absurd this (by decide)
set_option maxHeartbeats 4000000 in
set_option maxRecDepth 100000 in
theorem kX6_waysToBreak (l : Launch) (g : gG) (t c : Nat → Nat) (sg : Nat → Nat) (bs bc : Int32) (p1 p2 p3 p4 p5 rg : Nat → Int32) (a : Nat → Nat) (r : Nat → Int32) (i j : Int32) (N : Nat) (d : Int32) (hw : Wf r) (hN : N ≤ 6) : Met l yX6_waysToBreak (.code yX6_waysToBreak cX6_waysToBreak 11 (some .long) :: gw) (rmN 5) (va_Pc [.ref (t 0), .ref (a 0), .int (i), .int (j), .int (nI N), .int (d)] (rwPre g (tW g t (c 0) sg bs bc p1 p2 p3 p4 p5 ++ (yW g c rg ++ (yW g a r ++ []))))) (rxQl g (tW g t (c 0) sg bs bc p1 p2 p3 p4 p5 ++ (yW g c rg ++ (yW g a r ++ []))) (fun u : (Nat → Int32) => tW g t (c 0) sg bs bc p1 p2 p3 p4 p5 ++ (yW g c u ++ (yW g a r ++ []))) (wbF r i j d N (2 ^ N))) 0 0 (dm (tW g t (c 0) sg bs bc p1 p2 p3 p4 p5 ++ (yW g c rg ++ (yW g a r ++ [])))) := by
  refine met_start (by decide) (Nat.le_of_ble_eq_true rfl) ?_
  intro pp ee ss mm bl mt cd hC hpre ls hl
  obtain ⟨⟨hx, hb, hml, hown, hts⟩, hr, hlk, hnm⟩ := id hC
  have hl : lv_has ls 11 [(0, .ref (t 0)), (1, .ref (a 0)), (2, .int (i)), (3, .int (j)), (4, .int (nI N)), (5, .int (d))] := hl
  obtain ⟨hP, hK, hD⟩ := hpre
  have hS : va_S (dm (tW g t (c 0) sg bs bc p1 p2 p3 p4 p5 ++ (yW g c rg ++ (yW g a r ++ [])))) ss.heap ss.heap [] := va_S.rf
  have hD := vD_self hD
  refine lv_lconst (v := 0) hx hb dX6_waysToBreak_0 rfl ?_
  refine lv_lstore (lv' := [(6, .long (0)), (0, .ref (t 0)), (1, .ref (a 0)), (2, .int (i)), (3, .int (j)), (4, .int (nI N)), (5, .int (d))]) hx hb dX6_waysToBreak_1 hl (by decide) rfl (fun ls hl => ?_)
  refine lv_iload hx hb dX6_waysToBreak_3 (lv_at hl 5 rfl) ?_
  refine lv_iconst (v := 0) hx hb dX6_waysToBreak_5 rfl ?_
  refine lv_bipush (v := 6) hx hb dX6_waysToBreak_6 rfl ?_
  refine ro_i (run_SN (As := [.int (nI N), .int (0), .int (6)]) (rest := []) hC.1 ckX8_within (kX8_within l (nI N) 0 6) (hK.2.2 _ _ _ _ m_690) (fb_nil _) (fun _ _ _ => trivial) ⟨rfl, rfl, Nat.le_of_ble_eq_true rfl, Nat.le_of_ble_eq_true rfl⟩ rfl hl.1 rfl (Nat.le_of_ble_eq_true rfl) dX6_waysToBreak_8 ⟨Nat.le_of_ble_eq_true rfl, Nat.le_of_ble_eq_true rfl⟩) ?_
  refine lv_if_ne (tgt := 17) hx hb dX6_waysToBreak_11 (by decide) (fun c1 => ?_) (fun c1 => ?_)
  · skip
    have c1 := b2i_1 c1
    refine lv_iconst (v := 0) hx hb dX6_waysToBreak_17 rfl ?_
    refine lv_istore (lv' := [(8, .int (0)), (6, .long (0)), (0, .ref (t 0)), (1, .ref (a 0)), (2, .int (i)), (3, .int (j)), (4, .int (nI N)), (5, .int (d))]) hx hb dX6_waysToBreak_18 hl (by decide) rfl (fun ls hl => ?_)
    have cut20 : ∀ kk : Nat, ∀ (n : Nat) (gx : Nat → Int32), 2 ^ N + 1 - n < kk → (hn : n ≤ 2 ^ N) → ∀ (H : Heap) (locs : List Loc), kP g (tW g t (c 0) sg bs bc p1 p2 p3 p4 p5 ++ (yW g c gx ++ (yW g a r ++ []))) H → va_D (dm (tW g t (c 0) sg bs bc p1 p2 p3 p4 p5 ++ (yW g c rg ++ (yW g a r ++ [])))) (tW g t (c 0) sg bs bc p1 p2 p3 p4 p5 ++ (yW g c gx ++ (yW g a r ++ []))) → va_S (dm (tW g t (c 0) sg bs bc p1 p2 p3 p4 p5 ++ (yW g c rg ++ (yW g a r ++ [])))) ss.heap H locs → ∀ (ls : Array Slot), lv_has ls 11 [(0, .ref (t 0)), (1, .ref (a 0)), (2, .int (i)), (3, .int (j)), (4, .int (nI N)), (5, .int (d)), (6, .long (wbF r i j d N n)), (8, .int (nI n))] → W pp l ee (rmN 5) ss mm ([.ref (t 0), .ref (a 0), .int (i), .int (j), .int (nI N), .int (d)] : List Value).toArray bl mt cd H locs 0 0 (MQ bl (rxQl g (tW g t (c 0) sg bs bc p1 p2 p3 p4 p5 ++ (yW g c rg ++ (yW g a r ++ []))) (fun u : (Nat → Int32) => tW g t (c 0) sg bs bc p1 p2 p3 p4 p5 ++ (yW g c u ++ (yW g a r ++ []))) (wbF r i j d N (2 ^ N))) ([.ref (t 0), .ref (a 0), .int (i), .int (j), .int (nI N), .int (d)] : List Value).toArray ss 0 0 (dm (tW g t (c 0) sg bs bc p1 p2 p3 p4 p5 ++ (yW g c rg ++ (yW g a r ++ []))))) (F0 mm 20 ls []) := by
      intro kk
      induction kk with
      | zero => intro n gx hmu; exact absurd hmu (Nat.not_lt_zero _)
      | succ kk ih20 =>
        intro n gx hmu hn H locs hP hD hS ls hl
        have h64 := pw64 hN
        refine lv_iload hx hb dX6_waysToBreak_20 (lv_at hl 7 rfl) ?_
        refine lv_iconst (v := 1) hx hb dX6_waysToBreak_22 rfl ?_
        refine lv_iload hx hb dX6_waysToBreak_23 (lv_at hl 4 rfl) ?_
        refine lv_ishl hx hb dX6_waysToBreak_25 ?_
        refine top_i (x := 1 <<< ((nI N) &&& 31)) (y := nI (2 ^ N)) (shl1 hN) ?_
        refine lv_icmp_ge (tgt := 86) hx hb dX6_waysToBreak_26 (by decide) (fun c2 => ?_) (fun c2 => ?_)
        · skip
          have c2' := Int32.not_lt.mpr c2
          have hn9 : n = 2 ^ N := by rw [nI_leI (by omega) (by omega)] at c2; omega
          subst hn9
          refine lv_lload hx hb dX6_waysToBreak_86 (lv_at hl 6 rfl) ?_
          exact ret_rxl (S := (Nat → Int32)) gx hx hb hr hlk (by rfl) (hP) hS dX6_waysToBreak_88
        · skip
          have c2' := Int32.not_le.mp c2
          have hn9 : n < 2 ^ N := by rw [nI_leI (by omega) (by omega)] at c2; omega
          refine lv_aload_n hx hb dX6_waysToBreak_29 rfl (lv_at hl 0 rfl) ?_
          refine kget hC.1 hK (kP_app.mp hP).1 0 rfl rfl in_6 0 (by decide) (gw_in m_241 rfl) rfl dX6_waysToBreak_30 ?_
          refine lv_aload_n hx hb dX6_waysToBreak_33 rfl (lv_at hl 1 rfl) ?_
          have hP : kP g (yW g c gx ++ (yW g a r ++ (tW g t (c 0) sg bs bc p1 p2 p3 p4 p5 ++ []))) _ := kP_perm ((pm_swap _ _ _).trans (pmA _ (pm_swap _ _ _))) hP
          have hD : va_D _ (yW g c gx ++ (yW g a r ++ (tW g t (c 0) sg bs bc p1 p2 p3 p4 p5 ++ []))) := vD_perm ((pm_swap _ _ _).trans (pmA _ (pm_swap _ _ _))) hD
          refine rw_v (run_V (As := [.ref (a 0)]) (rest := []) hC.1 ckX7_copyOf (kX7_copyOf l g c a gx r) (gw_in m_647 rfl) (fb_rw _ _ _) (va_recv hK.1 (kP_app.mp hP).1 (q0 := 0) rfl rfl) (fun U hU hW => ⟨by rw [hU]; exact (kP_app.mpr ⟨(kP_app.mp hP).1, (kP_app.mpr ⟨(kP_app.mp (kP_app.mp hP).2).1, kP_nil⟩)⟩), kK_warm hW hK, vD_sub (sbA _ (sbA _ (sb0 _))) hD⟩) ⟨rfl, rfl, Nat.le_of_ble_eq_true rfl, Nat.le_of_ble_eq_true rfl⟩ rfl hl.1 rfl (Nat.le_of_ble_eq_true rfl) dX6_waysToBreak_34 ⟨Nat.le_of_ble_eq_true rfl, Nat.le_of_ble_eq_true rfl⟩) (adr_app yW_adr (adr_app rfl rfl)) (asc2 _ _ _) (ww' := yW g c r ++ (yW g a r ++ (tW g t (c 0) sg bs bc p1 p2 p3 p4 p5 ++ []))) (asc2 _ _ _) hP hD hS (fun H locs hP hD hS => ?_)
          refine lv_aload_n hx hb dX6_waysToBreak_37 rfl (lv_at hl 0 rfl) ?_
          refine lv_iload_n hx hb dX6_waysToBreak_38 rfl (lv_at hl 2 rfl) ?_
          refine lv_iload_n hx hb dX6_waysToBreak_39 rfl (lv_at hl 3 rfl) ?_
          refine lv_iload hx hb dX6_waysToBreak_40 (lv_at hl 4 rfl) ?_
          refine lv_iload hx hb dX6_waysToBreak_42 (lv_at hl 5 rfl) ?_
          refine lv_iload hx hb dX6_waysToBreak_44 (lv_at hl 7 rfl) ?_
          have hP : kP g (tW g t (c 0) sg bs bc p1 p2 p3 p4 p5 ++ (yW g c r ++ (yW g a r ++ []))) _ := kP_perm ((pmA _ (pm_swap _ _ _)).trans (pm_swap _ _ _)) hP
          have hD : va_D _ (tW g t (c 0) sg bs bc p1 p2 p3 p4 p5 ++ (yW g c r ++ (yW g a r ++ []))) := vD_perm ((pmA _ (pm_swap _ _ _)).trans (pm_swap _ _ _)) hD
          refine rw_l (run_V (As := [.int (i), .int (j), .int (nI N), .int (d), .int (nI n)]) (rest := []) hC.1 ckX6_strikeWithMisses (kX6_strikeWithMisses l g t c sg bs bc p1 p2 p3 p4 p5 r i j N d (nI n) hw hN) (gw_in m_860 rfl) (fb_rw _ _ _) (va_recv hK.1 (kP_app.mp hP).1 (q0 := 0) rfl rfl) (fun U hU hW => ⟨by rw [hU]; exact (kP_app.mpr ⟨(kP_app.mp hP).1, (kP_app.mpr ⟨(kP_app.mp (kP_app.mp hP).2).1, kP_nil⟩)⟩), kK_warm hW hK, vD_sub (sbA _ (sbA _ (sb0 _))) hD⟩) ⟨rfl, rfl, Nat.le_of_ble_eq_true rfl, Nat.le_of_ble_eq_true rfl⟩ rfl hl.1 rfl (Nat.le_of_ble_eq_true rfl) dX6_waysToBreak_46 ⟨Nat.le_of_ble_eq_true rfl, Nat.le_of_ble_eq_true rfl⟩) (adr_app rfl (adr_app yW_adr rfl)) (asc2 _ _ _) (ww' := tW g t (c 0) sg bs bc p1 p2 p3 p4 p5 ++ (yW g c (swF r i j d (nI n) N).2 ++ (yW g a r ++ []))) (asc2 _ _ _) hP hD hS (fun H locs hP hD hS => ?_)
          refine lv_lstore (lv' := [(9, .long ((swF r i j d (nI n) N).1)), (0, .ref (t 0)), (1, .ref (a 0)), (2, .int (i)), (3, .int (j)), (4, .int (nI N)), (5, .int (d)), (6, .long (wbF r i j d N n)), (8, .int (nI n))]) hx hb dX6_waysToBreak_49 hl (by decide) rfl (fun ls hl => ?_)
          refine lv_aload_n hx hb dX6_waysToBreak_51 rfl (lv_at hl 1 rfl) ?_
          refine kget hC.1 hK (kP_app.mp hP).1 0 rfl rfl in_6 0 (by decide) (gw_in m_241 rfl) rfl dX6_waysToBreak_52 ?_
          refine lv_iload_n hx hb dX6_waysToBreak_55 rfl (lv_at hl 4 rfl) ?_
          refine ro_i (run_V (As := [.int (j)]) (rest := []) hC.1 ckX7_isBroken (kX7_isBroken l g c (swF r i j d (nI n) N).2 j (Wf_swF hw N).n6) (gw_in m_652 rfl) (fb_ro _ _ _) (va_recv hK.1 (kP_app.mp (kP_app.mp hP).2).1 (q0 := 0) rfl rfl) (fun U hU hW => ⟨by rw [hU]; exact (kP_app.mp (kP_app.mp hP).2).1, kK_warm hW hK⟩) ⟨rfl, rfl, Nat.le_of_ble_eq_true rfl, Nat.le_of_ble_eq_true rfl⟩ rfl hl.1 rfl (Nat.le_of_ble_eq_true rfl) dX6_waysToBreak_56 ⟨Nat.le_of_ble_eq_true rfl, Nat.le_of_ble_eq_true rfl⟩) ?_
          refine lv_if_eq (tgt := 80) hx hb dX6_waysToBreak_59 (by decide) (fun c3 => ?_) (fun c3 => ?_)
          · skip
            have c3 := b2i_0 c3
            refine lv_iinc (v := nI (n + 1)) (lv' := [(8, .int (nI (n + 1))), (9, .long ((swF r i j d (nI n) N).1)), (0, .ref (t 0)), (1, .ref (a 0)), (2, .int (i)), (3, .int (j)), (4, .int (nI N)), (5, .int (d)), (6, .long (wbF r i j d N n))]) hx hb dX6_waysToBreak_80 hl (k := 8) rfl (inc_nI n) (by decide) rfl (fun ls hl => ?_)
            refine lv_goto (tgt := 20) hx hb dX6_waysToBreak_83 (by decide) ?_
            have e9 : wbF r i j d N (n + 1) = wbF r i j d N n := by simp only [wbF]; simp [hn, c2, c2', c3]
            have hl : lv_has ls 11 [(8, .int (nI (n + 1))), (9, .long ((swF r i j d (nI n) N).1)), (0, .ref (t 0)), (1, .ref (a 0)), (2, .int (i)), (3, .int (j)), (4, .int (nI N)), (5, .int (d)), (6, .long (wbF r i j d N (n + 1)))] := by rw [e9]; exact hl
            exact ih20 (n + 1) (swF r i j d (nI n) N).2 (by omega) (by omega) _ _ hP hD hS _ (lv_sub hl [2, 3, 4, 5, 6, 7, 8, 0] rfl)
          · skip
            have c3 := b2i_1 c3
            refine lv_aload_n hx hb dX6_waysToBreak_62 rfl (lv_at hl 1 rfl) ?_
            refine kget hC.1 hK (kP_app.mp hP).1 0 rfl rfl in_6 0 (by decide) (gw_in m_241 rfl) rfl dX6_waysToBreak_63 ?_
            refine lv_iload_n hx hb dX6_waysToBreak_66 rfl (lv_at hl 3 rfl) ?_
            refine ro_i (run_V (As := [.int (i)]) (rest := []) hC.1 ckX7_isWhole (kX7_isWhole l g c (swF r i j d (nI n) N).2 i (Wf_swF hw N).n6) (gw_in m_865 rfl) (fb_ro _ _ _) (va_recv hK.1 (kP_app.mp (kP_app.mp hP).2).1 (q0 := 0) rfl rfl) (fun U hU hW => ⟨by rw [hU]; exact (kP_app.mp (kP_app.mp hP).2).1, kK_warm hW hK⟩) ⟨rfl, rfl, Nat.le_of_ble_eq_true rfl, Nat.le_of_ble_eq_true rfl⟩ rfl hl.1 rfl (Nat.le_of_ble_eq_true rfl) dX6_waysToBreak_67 ⟨Nat.le_of_ble_eq_true rfl, Nat.le_of_ble_eq_true rfl⟩) ?_
            refine lv_if_eq (tgt := 80) hx hb dX6_waysToBreak_70 (by decide) (fun c4 => ?_) (fun c4 => ?_)
            · skip
              have c4 := b2i_0 c4
              refine lv_iinc (v := nI (n + 1)) (lv' := [(8, .int (nI (n + 1))), (9, .long ((swF r i j d (nI n) N).1)), (0, .ref (t 0)), (1, .ref (a 0)), (2, .int (i)), (3, .int (j)), (4, .int (nI N)), (5, .int (d)), (6, .long (wbF r i j d N n))]) hx hb dX6_waysToBreak_80 hl (k := 8) rfl (inc_nI n) (by decide) rfl (fun ls hl => ?_)
              refine lv_goto (tgt := 20) hx hb dX6_waysToBreak_83 (by decide) ?_
              have e9 : wbF r i j d N (n + 1) = wbF r i j d N n := by simp only [wbF]; simp [hn, c2, c2', c3, c4]
              have hl : lv_has ls 11 [(8, .int (nI (n + 1))), (9, .long ((swF r i j d (nI n) N).1)), (0, .ref (t 0)), (1, .ref (a 0)), (2, .int (i)), (3, .int (j)), (4, .int (nI N)), (5, .int (d)), (6, .long (wbF r i j d N (n + 1)))] := by rw [e9]; exact hl
              exact ih20 (n + 1) (swF r i j d (nI n) N).2 (by omega) (by omega) _ _ hP hD hS _ (lv_sub hl [2, 3, 4, 5, 6, 7, 8, 0] rfl)
            · skip
              have c4 := b2i_1 c4
              refine lv_lload hx hb dX6_waysToBreak_73 (lv_at hl 7 rfl) ?_
              refine lv_lload hx hb dX6_waysToBreak_75 (lv_at hl 0 rfl) ?_
              refine lv_ladd hx hb dX6_waysToBreak_77 ?_
              refine lv_lstore (lv' := [(6, .long ((wbF r i j d N n) + (swF r i j d (nI n) N).1)), (9, .long ((swF r i j d (nI n) N).1)), (0, .ref (t 0)), (1, .ref (a 0)), (2, .int (i)), (3, .int (j)), (4, .int (nI N)), (5, .int (d)), (8, .int (nI n))]) hx hb dX6_waysToBreak_78 hl (by decide) rfl (fun ls hl => ?_)
              refine lv_iinc (v := nI (n + 1)) (lv' := [(8, .int (nI (n + 1))), (6, .long ((wbF r i j d N n) + (swF r i j d (nI n) N).1)), (9, .long ((swF r i j d (nI n) N).1)), (0, .ref (t 0)), (1, .ref (a 0)), (2, .int (i)), (3, .int (j)), (4, .int (nI N)), (5, .int (d))]) hx hb dX6_waysToBreak_80 hl (k := 8) rfl (inc_nI n) (by decide) rfl (fun ls hl => ?_)
              refine lv_goto (tgt := 20) hx hb dX6_waysToBreak_83 (by decide) ?_
              have e9 : wbF r i j d N (n + 1) = (wbF r i j d N n) + (swF r i j d (nI n) N).1 := by simp only [wbF]; simp [hn, c2, c2', c3, c4]
              have hl : lv_has ls 11 [(8, .int (nI (n + 1))), (6, .long (wbF r i j d N (n + 1))), (9, .long ((swF r i j d (nI n) N).1)), (0, .ref (t 0)), (1, .ref (a 0)), (2, .int (i)), (3, .int (j)), (4, .int (nI N)), (5, .int (d))] := by rw [e9]; exact hl
              exact ih20 (n + 1) (swF r i j d (nI n) N).2 (by omega) (by omega) _ _ hP hD hS _ (lv_sub hl [3, 4, 5, 6, 7, 8, 1, 0] rfl)
    exact cut20 _ 0 rg (Nat.lt_succ_self _) (Nat.zero_le _) _ _ hP hD hS _ (lv_sub hl [2, 3, 4, 5, 6, 7, 1, 0] rfl)
  · skip
    have c1 := b2i_0 c1
    exact absurd (show wth (nI N) 0 6 = true from wth_nI (m := 6) hN) (by rw [c1]; decide)
set_option maxHeartbeats 4000000 in
set_option maxRecDepth 100000 in
theorem kX6_brokenBehindDays (l : Launch) (g : gG) (t c : Nat → Nat) (sg : Nat → Nat) (bs bc : Int32) (p1 p2 p3 p4 p5 rg : Nat → Int32) (a : Nat → Nat) (r : Nat → Int32) (x : Int32) (N : Nat) (hw : Wf r) (hN : N ≤ 60) : Met l yX6_brokenBehindDays (.code yX6_brokenBehindDays cX6_brokenBehindDays 9 (some .int) :: gw) (rmN 4) (va_Pc [.ref (t 0), .ref (a 0), .int (x), .int (nI N)] (rwPre g (tW g t (c 0) sg bs bc p1 p2 p3 p4 p5 ++ (yW g c rg ++ (yW g a r ++ []))))) (rwQi g (tW g t (c 0) sg bs bc p1 p2 p3 p4 p5 ++ (yW g c rg ++ (yW g a r ++ []))) (tW g t (c 0) sg bs bc p1 p2 p3 p4 p5 ++ (yW g c (dyF r x N).2 ++ (yW g a r ++ []))) (bcF (setB (fun j => yBrk (dyF r x N).2 (nI j)) (cl ((dyF r x N).2 2))))) 0 0 (dm (tW g t (c 0) sg bs bc p1 p2 p3 p4 p5 ++ (yW g c rg ++ (yW g a r ++ [])))) := by
  refine met_start (by decide) (Nat.le_of_ble_eq_true rfl) ?_
  intro pp ee ss mm bl mt cd hC hpre ls hl
  obtain ⟨⟨hx, hb, hml, hown, hts⟩, hr, hlk, hnm⟩ := id hC
  have hl : lv_has ls 9 [(0, .ref (t 0)), (1, .ref (a 0)), (2, .int (x)), (3, .int (nI N))] := hl
  obtain ⟨hP, hK, hD⟩ := hpre
  have hS : va_S (dm (tW g t (c 0) sg bs bc p1 p2 p3 p4 p5 ++ (yW g c rg ++ (yW g a r ++ [])))) ss.heap ss.heap [] := va_S.rf
  have hD := vD_self hD
  refine lv_aload_n hx hb dX6_brokenBehindDays_0 rfl (lv_at hl 0 rfl) ?_
  refine kget hC.1 hK (kP_app.mp hP).1 0 rfl rfl in_6 0 (by decide) (gw_in m_241 rfl) rfl dX6_brokenBehindDays_1 ?_
  refine lv_aload_n hx hb dX6_brokenBehindDays_4 rfl (lv_at hl 1 rfl) ?_
  have hP : kP g (yW g c rg ++ (yW g a r ++ (tW g t (c 0) sg bs bc p1 p2 p3 p4 p5 ++ []))) _ := kP_perm ((pm_swap _ _ _).trans (pmA _ (pm_swap _ _ _))) hP
  have hD : va_D _ (yW g c rg ++ (yW g a r ++ (tW g t (c 0) sg bs bc p1 p2 p3 p4 p5 ++ []))) := vD_perm ((pm_swap _ _ _).trans (pmA _ (pm_swap _ _ _))) hD
  refine rw_v (run_V (As := [.ref (a 0)]) (rest := []) hC.1 ckX7_copyOf (kX7_copyOf l g c a rg r) (gw_in m_647 rfl) (fb_rw _ _ _) (va_recv hK.1 (kP_app.mp hP).1 (q0 := 0) rfl rfl) (fun U hU hW => ⟨by rw [hU]; exact (kP_app.mpr ⟨(kP_app.mp hP).1, (kP_app.mpr ⟨(kP_app.mp (kP_app.mp hP).2).1, kP_nil⟩)⟩), kK_warm hW hK, vD_sub (sbA _ (sbA _ (sb0 _))) hD⟩) ⟨rfl, rfl, Nat.le_of_ble_eq_true rfl, Nat.le_of_ble_eq_true rfl⟩ rfl hl.1 rfl (Nat.le_of_ble_eq_true rfl) dX6_brokenBehindDays_5 ⟨Nat.le_of_ble_eq_true rfl, Nat.le_of_ble_eq_true rfl⟩) (adr_app yW_adr (adr_app rfl rfl)) (asc2 _ _ _) (ww' := yW g c r ++ (yW g a r ++ (tW g t (c 0) sg bs bc p1 p2 p3 p4 p5 ++ []))) (asc2 _ _ _) hP hD hS (fun H locs hP hD hS => ?_)
  refine lv_iload_n hx hb dX6_brokenBehindDays_8 rfl (lv_at hl 2 rfl) ?_
  refine lv_i2l hx hb dX6_brokenBehindDays_9 rfl ?_
  refine lv_lstore (lv' := [(4, .long (x.toInt64)), (0, .ref (t 0)), (1, .ref (a 0)), (2, .int (x)), (3, .int (nI N))]) hx hb dX6_brokenBehindDays_10 hl (by decide) rfl (fun ls hl => ?_)
  refine lv_iconst (v := 0) hx hb dX6_brokenBehindDays_12 rfl ?_
  refine lv_istore (lv' := [(6, .int (0)), (4, .long (x.toInt64)), (0, .ref (t 0)), (1, .ref (a 0)), (2, .int (x)), (3, .int (nI N))]) hx hb dX6_brokenBehindDays_13 hl (by decide) rfl (fun ls hl => ?_)
  have cut15 : ∀ kk : Nat, ∀ (n : Nat), N + 1 - n < kk → (hn : n ≤ N) → ∀ (H : Heap) (locs : List Loc), kP g (tW g t (c 0) sg bs bc p1 p2 p3 p4 p5 ++ (yW g c (dyF r x n).2 ++ (yW g a r ++ []))) H → va_D (dm (tW g t (c 0) sg bs bc p1 p2 p3 p4 p5 ++ (yW g c rg ++ (yW g a r ++ [])))) (tW g t (c 0) sg bs bc p1 p2 p3 p4 p5 ++ (yW g c (dyF r x n).2 ++ (yW g a r ++ []))) → va_S (dm (tW g t (c 0) sg bs bc p1 p2 p3 p4 p5 ++ (yW g c rg ++ (yW g a r ++ [])))) ss.heap H locs → ∀ (ls : Array Slot), lv_has ls 9 [(0, .ref (t 0)), (1, .ref (a 0)), (2, .int (x)), (3, .int (nI N)), (4, .long ((dyF r x n).1)), (6, .int (nI n))] → W pp l ee (rmN 4) ss mm ([.ref (t 0), .ref (a 0), .int (x), .int (nI N)] : List Value).toArray bl mt cd H locs 0 0 (MQ bl (rwQi g (tW g t (c 0) sg bs bc p1 p2 p3 p4 p5 ++ (yW g c rg ++ (yW g a r ++ []))) (tW g t (c 0) sg bs bc p1 p2 p3 p4 p5 ++ (yW g c (dyF r x N).2 ++ (yW g a r ++ []))) (bcF (setB (fun j => yBrk (dyF r x N).2 (nI j)) (cl ((dyF r x N).2 2))))) ([.ref (t 0), .ref (a 0), .int (x), .int (nI N)] : List Value).toArray ss 0 0 (dm (tW g t (c 0) sg bs bc p1 p2 p3 p4 p5 ++ (yW g c rg ++ (yW g a r ++ []))))) (F0 mm 15 ls []) := by
    intro kk
    induction kk with
    | zero => intro n hmu; exact absurd hmu (Nat.not_lt_zero _)
    | succ kk ih15 =>
      intro n hmu hn H locs hP hD hS ls hl
      have hwn := Wf_dyF (x := x) hw n
      refine lv_iload hx hb dX6_brokenBehindDays_15 (lv_at hl 5 rfl) ?_
      refine lv_iload_n hx hb dX6_brokenBehindDays_17 rfl (lv_at hl 3 rfl) ?_
      refine lv_icmp_ge (tgt := 91) hx hb dX6_brokenBehindDays_18 (by decide) (fun c1 => ?_) (fun c1 => ?_)
      · skip
        have c1' := Int32.not_lt.mpr c1
        have hn9 : n = N := by rw [nI_leI (by omega) (by omega)] at c1; omega
        subst hn9
        refine lv_aload_n hx hb dX6_brokenBehindDays_91 rfl (lv_at hl 0 rfl) ?_
        refine kget hC.1 hK (kP_app.mp hP).1 0 rfl rfl in_6 0 (by decide) (gw_in m_241 rfl) rfl dX6_brokenBehindDays_92 ?_
        refine ro_i (run_V (As := []) (rest := []) hC.1 ckX7_brokenBits (kX7_brokenBits l g c (dyF r x n).2 hwn) (gw_in m_888 rfl) (fb_ro _ _ _) (va_recv hK.1 (kP_app.mp (kP_app.mp hP).2).1 (q0 := 0) rfl rfl) (fun U hU hW => ⟨by rw [hU]; exact (kP_app.mp (kP_app.mp hP).2).1, kK_warm hW hK⟩) ⟨rfl, rfl, Nat.le_of_ble_eq_true rfl, Nat.le_of_ble_eq_true rfl⟩ rfl hl.1 rfl (Nat.le_of_ble_eq_true rfl) dX6_brokenBehindDays_95 ⟨Nat.le_of_ble_eq_true rfl, Nat.le_of_ble_eq_true rfl⟩) ?_
        refine ro_i (run_S (As := [.int (setB (fun j => yBrk (dyF r x n).2 (nI j)) (cl ((dyF r x n).2 2)))]) (rest := []) hC.1 ckJ6_bitCount_0f7a4 (kJ6_bitCount_0f7a4 l (setB (fun j => yBrk (dyF r x n).2 (nI j)) (cl ((dyF r x n).2 2)))) (gw_in m_701 rfl) (fb_nil _) (fun _ _ _ => trivial) ⟨rfl, rfl, Nat.le_of_ble_eq_true rfl, Nat.le_of_ble_eq_true rfl⟩ rfl hl.1 rfl (Nat.le_of_ble_eq_true rfl) dX6_brokenBehindDays_98 ⟨Nat.le_of_ble_eq_true rfl, Nat.le_of_ble_eq_true rfl⟩) ?_
        exact ret_rwi hx hb hr hlk (by rfl) (hP) hS dX6_brokenBehindDays_101
      · skip
        have c1' := Int32.not_le.mp c1
        have hn9 : n < N := by rw [nI_leI (by omega) (by omega)] at c1; omega
        refine lv_lload hx hb dX6_brokenBehindDays_21 (lv_at hl 4 rfl) ?_
        refine lv_ldc2 (v := 1103515245) hx hb hown (hts _ (gw_in m_882 rfl)) dX6_brokenBehindDays_23 ?_
        refine lv_lmul hx hb dX6_brokenBehindDays_26 ?_
        refine lv_ldc2 (v := 12345) hx hb hown (hts _ (gw_in m_883 rfl)) dX6_brokenBehindDays_27 ?_
        refine lv_ladd hx hb dX6_brokenBehindDays_30 ?_
        refine lv_ldc2 (v := 2147483648) hx hb hown (hts _ (gw_in m_884 rfl)) dX6_brokenBehindDays_31 ?_
        refine lv_lrem hx hb dX6_brokenBehindDays_34 (by decide) ?_
        refine top_l (x := (((dyF r x n).1 * 1103515245) + 12345) - (((dyF r x n).1 * 1103515245) + 12345) / 2147483648 * 2147483648) (y := lcg (dyF r x n).1) rfl ?_
        refine lv_lstore (lv' := [(4, .long (lcg (dyF r x n).1)), (0, .ref (t 0)), (1, .ref (a 0)), (2, .int (x)), (3, .int (nI N)), (6, .int (nI n))]) hx hb dX6_brokenBehindDays_35 hl (by decide) rfl (fun ls hl => ?_)
        refine lv_lload hx hb dX6_brokenBehindDays_37 (lv_at hl 0 rfl) ?_
        refine lv_ldc2 (v := 65536) hx hb hown (hts _ (gw_in m_885 rfl)) dX6_brokenBehindDays_39 ?_
        refine lv_ldiv hx hb dX6_brokenBehindDays_42 (by decide) ?_
        refine lv_ldc2 (v := 6) hx hb hown (hts _ (gw_in m_886 rfl)) dX6_brokenBehindDays_43 ?_
        refine lv_lrem hx hb dX6_brokenBehindDays_46 (by decide) ?_
        refine lv_l2i hx hb dX6_brokenBehindDays_47 rfl ?_
        refine top_i (x := (((lcg (dyF r x n).1) / 65536) - ((lcg (dyF r x n).1) / 65536) / 6 * 6).toInt32) (y := diI (lcg (dyF r x n).1)) rfl ?_
        refine lv_istore (lv' := [(7, .int (diI (lcg (dyF r x n).1))), (4, .long (lcg (dyF r x n).1)), (0, .ref (t 0)), (1, .ref (a 0)), (2, .int (x)), (3, .int (nI N)), (6, .int (nI n))]) hx hb dX6_brokenBehindDays_48 hl (by decide) rfl (fun ls hl => ?_)
        refine lv_lload hx hb dX6_brokenBehindDays_50 (lv_at hl 1 rfl) ?_
        refine lv_ldc2 (v := 1048576) hx hb hown (hts _ (gw_in m_887 rfl)) dX6_brokenBehindDays_52 ?_
        refine lv_ldiv hx hb dX6_brokenBehindDays_55 (by decide) ?_
        refine lv_ldc2 (v := 6) hx hb hown (hts _ (gw_in m_886 rfl)) dX6_brokenBehindDays_56 ?_
        refine lv_lrem hx hb dX6_brokenBehindDays_59 (by decide) ?_
        refine lv_l2i hx hb dX6_brokenBehindDays_60 rfl ?_
        refine top_i (x := (((lcg (dyF r x n).1) / 1048576) - ((lcg (dyF r x n).1) / 1048576) / 6 * 6).toInt32) (y := djI (lcg (dyF r x n).1)) rfl ?_
        refine lv_istore (lv' := [(8, .int (djI (lcg (dyF r x n).1))), (7, .int (diI (lcg (dyF r x n).1))), (4, .long (lcg (dyF r x n).1)), (0, .ref (t 0)), (1, .ref (a 0)), (2, .int (x)), (3, .int (nI N)), (6, .int (nI n))]) hx hb dX6_brokenBehindDays_61 hl (by decide) rfl (fun ls hl => ?_)
        refine lv_aload_n hx hb dX6_brokenBehindDays_63 rfl (lv_at hl 3 rfl) ?_
        refine kget hC.1 hK (kP_app.mp hP).1 0 rfl rfl in_6 0 (by decide) (gw_in m_241 rfl) rfl dX6_brokenBehindDays_64 ?_
        refine lv_iload hx hb dX6_brokenBehindDays_67 (lv_at hl 1 rfl) ?_
        refine lv_iload hx hb dX6_brokenBehindDays_69 (lv_at hl 0 rfl) ?_
        have hP : kP g (yW g c (dyF r x n).2 ++ (tW g t (c 0) sg bs bc p1 p2 p3 p4 p5 ++ (yW g a r ++ []))) _ := kP_perm (pm_swap _ _ _) hP
        have hD : va_D _ (yW g c (dyF r x n).2 ++ (tW g t (c 0) sg bs bc p1 p2 p3 p4 p5 ++ (yW g a r ++ []))) := vD_perm (pm_swap _ _ _) hD
        refine rw_i (run_V (As := [.int (diI (lcg (dyF r x n).1)), .int (djI (lcg (dyF r x n).1))]) (rest := []) hC.1 ckX7_strike (kX7_strike l g c (dyF r x n).2 (diI (lcg (dyF r x n).1)) (djI (lcg (dyF r x n).1)) hwn) (gw_in m_651 rfl) (fb_rw _ _ _) (va_recv hK.1 (kP_app.mp hP).1 (q0 := 0) rfl rfl) (fun U hU hW => ⟨by rw [hU]; exact (kP_app.mpr ⟨(kP_app.mp hP).1, kP_nil⟩), kK_warm hW hK, vD_sub (sbA _ (sb0 _)) hD⟩) ⟨rfl, rfl, Nat.le_of_ble_eq_true rfl, Nat.le_of_ble_eq_true rfl⟩ rfl hl.1 rfl (Nat.le_of_ble_eq_true rfl) dX6_brokenBehindDays_71 ⟨Nat.le_of_ble_eq_true rfl, Nat.le_of_ble_eq_true rfl⟩) (adr_app yW_adr rfl) (asc1 _ _) (ww' := yW g c (if yCan (dyF r x n).2 (diI (lcg (dyF r x n).1)) (djI (lcg (dyF r x n).1)) = true then stk (dyF r x n).2 (diI (lcg (dyF r x n).1)) (djI (lcg (dyF r x n).1)) else (dyF r x n).2) ++ (tW g t (c 0) sg bs bc p1 p2 p3 p4 p5 ++ (yW g a r ++ []))) (asc1 _ _) hP hD hS (fun H locs hP hD hS => ?_)
        refine lv_if_ne (tgt := 85) hx hb dX6_brokenBehindDays_74 (by decide) (fun c2 => ?_) (fun c2 => ?_)
        · skip
          have c2 := b2i_1 c2
          refine lv_iinc (v := nI (n + 1)) (lv' := [(6, .int (nI (n + 1))), (8, .int (djI (lcg (dyF r x n).1))), (7, .int (diI (lcg (dyF r x n).1))), (4, .long (lcg (dyF r x n).1)), (0, .ref (t 0)), (1, .ref (a 0)), (2, .int (x)), (3, .int (nI N))]) hx hb dX6_brokenBehindDays_85 hl (k := 7) rfl (inc_nI n) (by decide) rfl (fun ls hl => ?_)
          refine lv_goto (tgt := 15) hx hb dX6_brokenBehindDays_88 (by decide) ?_
          have e9 : dyF r x (n + 1) = (lcg (dyF r x n).1, if yCan (dyF r x n).2 (diI (lcg (dyF r x n).1)) (djI (lcg (dyF r x n).1)) = true then stk (dyF r x n).2 (diI (lcg (dyF r x n).1)) (djI (lcg (dyF r x n).1)) else (dyF r x n).2) := by simp only [dyF, dyS]; simp [pasF, hn, c1, c1', c2]
          have hl : lv_has ls 9 [(6, .int (nI (n + 1))), (8, .int (djI (lcg (dyF r x n).1))), (7, .int (diI (lcg (dyF r x n).1))), (4, .long ((dyF r x (n + 1)).1)), (0, .ref (t 0)), (1, .ref (a 0)), (2, .int (x)), (3, .int (nI N))] := by rw [e9]; exact hl
          have hP : kP g (yW g c (dyF r x (n + 1)).2 ++ (tW g t (c 0) sg bs bc p1 p2 p3 p4 p5 ++ (yW g a r ++ []))) _ := kP_eq (by rw [e9]) hP
          have hD : va_D _ (yW g c (dyF r x (n + 1)).2 ++ (tW g t (c 0) sg bs bc p1 p2 p3 p4 p5 ++ (yW g a r ++ []))) := vD_eq (by rw [e9]) hD
          have hP : kP g (tW g t (c 0) sg bs bc p1 p2 p3 p4 p5 ++ (yW g c (dyF r x (n + 1)).2 ++ (yW g a r ++ []))) _ := kP_perm (pm_swap _ _ _) hP
          have hD : va_D _ (tW g t (c 0) sg bs bc p1 p2 p3 p4 p5 ++ (yW g c (dyF r x (n + 1)).2 ++ (yW g a r ++ []))) := vD_perm (pm_swap _ _ _) hD
          exact ih15 (n + 1) (by omega) (by omega) _ _ hP hD hS _ (lv_sub hl [4, 5, 6, 7, 3, 0] rfl)
        · skip
          have c2 := b2i_0 c2
          refine lv_aload_n hx hb dX6_brokenBehindDays_77 rfl (lv_at hl 3 rfl) ?_
          refine kget hC.1 hK (kP_app.mp (kP_app.mp hP).2).1 0 rfl rfl in_6 0 (by decide) (gw_in m_241 rfl) rfl dX6_brokenBehindDays_78 ?_
          refine lv_iconst (v := 1) hx hb dX6_brokenBehindDays_81 rfl ?_
          refine rw_v (run_V (As := [.int (1)]) (rest := []) hC.1 ckX7_pass (kX7_pass l g c (if yCan (dyF r x n).2 (diI (lcg (dyF r x n).1)) (djI (lcg (dyF r x n).1)) = true then stk (dyF r x n).2 (diI (lcg (dyF r x n).1)) (djI (lcg (dyF r x n).1)) else (dyF r x n).2) 1) (gw_in m_864 rfl) (fb_rw _ _ _) (va_recv hK.1 (kP_app.mp hP).1 (q0 := 0) rfl rfl) (fun U hU hW => ⟨by rw [hU]; exact (kP_app.mpr ⟨(kP_app.mp hP).1, kP_nil⟩), kK_warm hW hK, vD_sub (sbA _ (sb0 _)) hD⟩) ⟨rfl, rfl, Nat.le_of_ble_eq_true rfl, Nat.le_of_ble_eq_true rfl⟩ rfl hl.1 rfl (Nat.le_of_ble_eq_true rfl) dX6_brokenBehindDays_82 ⟨Nat.le_of_ble_eq_true rfl, Nat.le_of_ble_eq_true rfl⟩) (adr_app yW_adr rfl) (asc1 _ _) (ww' := yW g c (upd (if yCan (dyF r x n).2 (diI (lcg (dyF r x n).1)) (djI (lcg (dyF r x n).1)) = true then stk (dyF r x n).2 (diI (lcg (dyF r x n).1)) (djI (lcg (dyF r x n).1)) else (dyF r x n).2) 0 (if (if yCan (dyF r x n).2 (diI (lcg (dyF r x n).1)) (djI (lcg (dyF r x n).1)) = true then stk (dyF r x n).2 (diI (lcg (dyF r x n).1)) (djI (lcg (dyF r x n).1)) else (dyF r x n).2) 0 + 1 < 9999 then (if yCan (dyF r x n).2 (diI (lcg (dyF r x n).1)) (djI (lcg (dyF r x n).1)) = true then stk (dyF r x n).2 (diI (lcg (dyF r x n).1)) (djI (lcg (dyF r x n).1)) else (dyF r x n).2) 0 + 1 else 9999)) ++ (tW g t (c 0) sg bs bc p1 p2 p3 p4 p5 ++ (yW g a r ++ []))) (asc1 _ _) hP hD hS (fun H locs hP hD hS => ?_)
          refine lv_iinc (v := nI (n + 1)) (lv' := [(6, .int (nI (n + 1))), (8, .int (djI (lcg (dyF r x n).1))), (7, .int (diI (lcg (dyF r x n).1))), (4, .long (lcg (dyF r x n).1)), (0, .ref (t 0)), (1, .ref (a 0)), (2, .int (x)), (3, .int (nI N))]) hx hb dX6_brokenBehindDays_85 hl (k := 7) rfl (inc_nI n) (by decide) rfl (fun ls hl => ?_)
          refine lv_goto (tgt := 15) hx hb dX6_brokenBehindDays_88 (by decide) ?_
          have e9 : dyF r x (n + 1) = (lcg (dyF r x n).1, upd (if yCan (dyF r x n).2 (diI (lcg (dyF r x n).1)) (djI (lcg (dyF r x n).1)) = true then stk (dyF r x n).2 (diI (lcg (dyF r x n).1)) (djI (lcg (dyF r x n).1)) else (dyF r x n).2) 0 (if (if yCan (dyF r x n).2 (diI (lcg (dyF r x n).1)) (djI (lcg (dyF r x n).1)) = true then stk (dyF r x n).2 (diI (lcg (dyF r x n).1)) (djI (lcg (dyF r x n).1)) else (dyF r x n).2) 0 + 1 < 9999 then (if yCan (dyF r x n).2 (diI (lcg (dyF r x n).1)) (djI (lcg (dyF r x n).1)) = true then stk (dyF r x n).2 (diI (lcg (dyF r x n).1)) (djI (lcg (dyF r x n).1)) else (dyF r x n).2) 0 + 1 else 9999)) := by simp only [dyF, dyS]; simp [pasF, hn, c1, c1', c2]
          have hl : lv_has ls 9 [(6, .int (nI (n + 1))), (8, .int (djI (lcg (dyF r x n).1))), (7, .int (diI (lcg (dyF r x n).1))), (4, .long ((dyF r x (n + 1)).1)), (0, .ref (t 0)), (1, .ref (a 0)), (2, .int (x)), (3, .int (nI N))] := by rw [e9]; exact hl
          have hP : kP g (yW g c (dyF r x (n + 1)).2 ++ (tW g t (c 0) sg bs bc p1 p2 p3 p4 p5 ++ (yW g a r ++ []))) _ := kP_eq (by rw [e9]) hP
          have hD : va_D _ (yW g c (dyF r x (n + 1)).2 ++ (tW g t (c 0) sg bs bc p1 p2 p3 p4 p5 ++ (yW g a r ++ []))) := vD_eq (by rw [e9]) hD
          have hP : kP g (tW g t (c 0) sg bs bc p1 p2 p3 p4 p5 ++ (yW g c (dyF r x (n + 1)).2 ++ (yW g a r ++ []))) _ := kP_perm (pm_swap _ _ _) hP
          have hD : va_D _ (tW g t (c 0) sg bs bc p1 p2 p3 p4 p5 ++ (yW g c (dyF r x (n + 1)).2 ++ (yW g a r ++ []))) := vD_perm (pm_swap _ _ _) hD
          exact ih15 (n + 1) (by omega) (by omega) _ _ hP hD hS _ (lv_sub hl [4, 5, 6, 7, 3, 0] rfl)
  have hP : kP g (tW g t (c 0) sg bs bc p1 p2 p3 p4 p5 ++ (yW g c r ++ (yW g a r ++ []))) _ := kP_perm ((pmA _ (pm_swap _ _ _)).trans (pm_swap _ _ _)) hP
  have hD : va_D _ (tW g t (c 0) sg bs bc p1 p2 p3 p4 p5 ++ (yW g c r ++ (yW g a r ++ []))) := vD_perm ((pmA _ (pm_swap _ _ _)).trans (pm_swap _ _ _)) hD
  exact cut15 _ 0 (Nat.lt_succ_self _) (by omega) _ _ hP hD hS _ (lv_sub hl [2, 3, 4, 5, 1, 0] rfl)
set_option maxHeartbeats 4000000 in
set_option maxRecDepth 100000 in
theorem kX6_isChoice (l : Launch) (g : gG) (a : Nat → Nat) (r : Nat → Int32) (p q : Int32) (n : Nat) (hw : Wf r) (hn : n < 36) : Met l yX6_isChoice (.code yX6_isChoice cX6_isChoice 4 (some .boolean) :: gw) (rmN 3) (va_Pc [.ref (a 0), .int (p), .int (q), .int (nI n)] (roPre g (yW g a r))) (vp_Si (fun v => v = (b2i (chB r p q n)))) 0 0 (fun _ => False) := by
  refine met_start (by decide) (Nat.le_of_ble_eq_true rfl) ?_
  intro pp ee ss mm bl mt cd hC hpre ls hl
  obtain ⟨⟨hx, hb, hml, hown, hts⟩, hr, hlk, hnm⟩ := id hC
  have hl : lv_has ls 4 [(0, .ref (a 0)), (1, .int (p)), (2, .int (q)), (3, .int (nI n))] := hl
  obtain ⟨hP, hK⟩ := hpre
  refine lv_aload_n hx hb dX6_isChoice_0 rfl (lv_at hl 0 rfl) ?_
  refine lv_iload_n hx hb dX6_isChoice_1 rfl (lv_at hl 3 rfl) ?_
  refine lv_bipush (v := 6) hx hb dX6_isChoice_2 rfl ?_
  refine lv_idiv hx hb dX6_isChoice_4 (by decide) ?_
  refine top_i (x := (nI n) / 6) (y := nI (n / 6)) (pk_div (d := 6) (by omega) (by omega) (by omega)) ?_
  refine lv_iload_n hx hb dX6_isChoice_5 rfl (lv_at hl 1 rfl) ?_
  refine ro_i (run_V (As := [.int (nI (n / 6)), .int (p)]) (rest := []) hC.1 ckX7_isWholeOf (kX7_isWholeOf l g a r (nI (n / 6)) p hw.n6) (gw_in m_732 rfl) (fb_ro _ _ _) (va_recv hK.1 hP (q0 := 0) rfl rfl) (fun U hU hW => ⟨by rw [hU]; exact hP, kK_warm hW hK⟩) ⟨rfl, rfl, Nat.le_of_ble_eq_true rfl, Nat.le_of_ble_eq_true rfl⟩ rfl hl.1 rfl (Nat.le_of_ble_eq_true rfl) dX6_isChoice_6 ⟨Nat.le_of_ble_eq_true rfl, Nat.le_of_ble_eq_true rfl⟩) ?_
  refine lv_if_eq (tgt := 28) hx hb dX6_isChoice_9 (by decide) (fun c1 => ?_) (fun c1 => ?_)
  · skip
    have c1 := b2i_0 c1
    refine lv_iconst (v := 0) hx hb dX6_isChoice_28 rfl ?_
    exact ret_roz hx hb hr hlk rfl (by first | (simp [chB, b2i, Int32.not_le, Int32.not_lt, c1]; done) | (clear hx hb hr hlk hnm hml hown hts hC hl; simp_all [chB, b2i, Int32.not_le, Int32.not_lt])) dX6_isChoice_29
  · skip
    have c1 := b2i_1 c1
    refine lv_aload_n hx hb dX6_isChoice_12 rfl (lv_at hl 0 rfl) ?_
    refine lv_iload_n hx hb dX6_isChoice_13 rfl (lv_at hl 3 rfl) ?_
    refine lv_bipush (v := 6) hx hb dX6_isChoice_14 rfl ?_
    refine lv_irem hx hb dX6_isChoice_16 (by decide) ?_
    refine top_i (x := (nI n) - (nI n) / 6 * 6) (y := nI (n % 6)) (pk_rem (d := 6) (by omega) (by omega) (by omega)) ?_
    refine lv_iload_n hx hb dX6_isChoice_17 rfl (lv_at hl 2 rfl) ?_
    refine ro_i (run_V (As := [.int (nI (n % 6)), .int (q)]) (rest := []) hC.1 ckX7_isWholeOf (kX7_isWholeOf l g a r (nI (n % 6)) q hw.n6) (gw_in m_732 rfl) (fb_ro _ _ _) (va_recv hK.1 hP (q0 := 0) rfl rfl) (fun U hU hW => ⟨by rw [hU]; exact hP, kK_warm hW hK⟩) ⟨rfl, rfl, Nat.le_of_ble_eq_true rfl, Nat.le_of_ble_eq_true rfl⟩ rfl hl.1 rfl (Nat.le_of_ble_eq_true rfl) dX6_isChoice_18 ⟨Nat.le_of_ble_eq_true rfl, Nat.le_of_ble_eq_true rfl⟩) ?_
    refine lv_if_eq (tgt := 28) hx hb dX6_isChoice_21 (by decide) (fun c2 => ?_) (fun c2 => ?_)
    · skip
      have c2 := b2i_0 c2
      refine lv_iconst (v := 0) hx hb dX6_isChoice_28 rfl ?_
      exact ret_roz hx hb hr hlk rfl (by first | (simp [chB, b2i, Int32.not_le, Int32.not_lt, c1, c2]; done) | (clear hx hb hr hlk hnm hml hown hts hC hl; simp_all [chB, b2i, Int32.not_le, Int32.not_lt])) dX6_isChoice_29
    · skip
      have c2 := b2i_1 c2
      refine lv_iconst (v := 1) hx hb dX6_isChoice_24 rfl ?_
      refine lv_goto (tgt := 29) hx hb dX6_isChoice_25 (by decide) ?_
      exact ret_roz hx hb hr hlk rfl (by first | (simp [chB, b2i, Int32.not_le, Int32.not_lt, c1, c2]; done) | (clear hx hb hr hlk hnm hml hown hts hC hl; simp_all [chB, b2i, Int32.not_le, Int32.not_lt])) dX6_isChoice_29
set_option maxHeartbeats 4000000 in
set_option maxRecDepth 100000 in
theorem kX6_getsBy (l : Launch) (g : gG) (t c : Nat → Nat) (sg : Nat → Nat) (bs bc : Int32) (p1 p2 p3 p4 p5 rg : Nat → Int32) (a : Nat → Nat) (r : Nat → Int32) (i : Int32) (hw : Wf r) (hg : Wf rg) : Met l yX6_getsBy (.code yX6_getsBy cX6_getsBy 5 (some .int) :: gw) (rmN 4) (va_Pc [.ref (t 0), .ref (a 0), .int (i)] (roPre g (tW g t (c 0) sg bs bc p1 p2 p3 p4 p5 ++ (yW g c rg ++ (yW g a r ++ []))))) (vp_Si (fun v => v = (gtB rg r i))) 0 0 (fun _ => False) := by
  refine met_start (by decide) (Nat.le_of_ble_eq_true rfl) ?_
  intro pp ee ss mm bl mt cd hC hpre ls hl
  obtain ⟨⟨hx, hb, hml, hown, hts⟩, hr, hlk, hnm⟩ := id hC
  have hl : lv_has ls 5 [(0, .ref (t 0)), (1, .ref (a 0)), (2, .int (i))] := hl
  obtain ⟨hP, hK⟩ := hpre
  refine lv_aload_n hx hb dX6_getsBy_0 rfl (lv_at hl 0 rfl) ?_
  refine kget hC.1 hK (kP_app.mp hP).1 0 rfl rfl in_6 0 (by decide) (gw_in m_241 rfl) rfl dX6_getsBy_1 ?_
  refine lv_iload_n hx hb dX6_getsBy_4 rfl (lv_at hl 2 rfl) ?_
  refine lv_iconst (v := 5) hx hb dX6_getsBy_5 rfl ?_
  refine ro_i (run_V (As := [.int (i), .int (5)]) (rest := []) hC.1 ckX7_fact (kX7_fact l g c rg i 5 hg) (gw_in m_691 rfl) (fb_ro _ _ _) (va_recv hK.1 (kP_app.mp (kP_app.mp hP).2).1 (q0 := 0) rfl rfl) (fun U hU hW => ⟨by rw [hU]; exact (kP_app.mp (kP_app.mp hP).2).1, kK_warm hW hK⟩) ⟨rfl, rfl, Nat.le_of_ble_eq_true rfl, Nat.le_of_ble_eq_true rfl⟩ rfl hl.1 rfl (Nat.le_of_ble_eq_true rfl) dX6_getsBy_6 ⟨Nat.le_of_ble_eq_true rfl, Nat.le_of_ble_eq_true rfl⟩) ?_
  refine lv_aload_n hx hb dX6_getsBy_9 rfl (lv_at hl 1 rfl) ?_
  refine lv_iload_n hx hb dX6_getsBy_10 rfl (lv_at hl 2 rfl) ?_
  refine lv_iconst (v := 5) hx hb dX6_getsBy_11 rfl ?_
  refine ro_i (run_V (As := [.int (i), .int (5)]) (rest := [.int (yFact rg i 5)]) hC.1 ckX7_fact (kX7_fact l g a r i 5 hw) (gw_in m_691 rfl) (fb_ro _ _ _) (va_recv hK.1 (kP_app.mp (kP_app.mp (kP_app.mp hP).2).2).1 (q0 := 0) rfl rfl) (fun U hU hW => ⟨by rw [hU]; exact (kP_app.mp (kP_app.mp (kP_app.mp hP).2).2).1, kK_warm hW hK⟩) ⟨rfl, rfl, Nat.le_of_ble_eq_true rfl, Nat.le_of_ble_eq_true rfl⟩ rfl hl.1 rfl (Nat.le_of_ble_eq_true rfl) dX6_getsBy_12 ⟨Nat.le_of_ble_eq_true rfl, Nat.le_of_ble_eq_true rfl⟩) ?_
  refine lv_isub hx hb dX6_getsBy_15 ?_
  refine lv_istore_n (lv' := [(3, .int ((yFact rg i 5) - (yFact r i 5))), (0, .ref (t 0)), (1, .ref (a 0)), (2, .int (i))]) hx hb dX6_getsBy_16 rfl hl (by decide) rfl (fun ls hl => ?_)
  refine lv_aload_n hx hb dX6_getsBy_17 rfl (lv_at hl 1 rfl) ?_
  refine kget hC.1 hK (kP_app.mp hP).1 0 rfl rfl in_6 0 (by decide) (gw_in m_241 rfl) rfl dX6_getsBy_18 ?_
  refine lv_iload_n hx hb dX6_getsBy_21 rfl (lv_at hl 3 rfl) ?_
  refine lv_iconst (v := 4) hx hb dX6_getsBy_22 rfl ?_
  refine ro_i (run_V (As := [.int (i), .int (4)]) (rest := []) hC.1 ckX7_fact (kX7_fact l g c rg i 4 hg) (gw_in m_691 rfl) (fb_ro _ _ _) (va_recv hK.1 (kP_app.mp (kP_app.mp hP).2).1 (q0 := 0) rfl rfl) (fun U hU hW => ⟨by rw [hU]; exact (kP_app.mp (kP_app.mp hP).2).1, kK_warm hW hK⟩) ⟨rfl, rfl, Nat.le_of_ble_eq_true rfl, Nat.le_of_ble_eq_true rfl⟩ rfl hl.1 rfl (Nat.le_of_ble_eq_true rfl) dX6_getsBy_23 ⟨Nat.le_of_ble_eq_true rfl, Nat.le_of_ble_eq_true rfl⟩) ?_
  refine lv_aload_n hx hb dX6_getsBy_26 rfl (lv_at hl 2 rfl) ?_
  refine lv_iload_n hx hb dX6_getsBy_27 rfl (lv_at hl 3 rfl) ?_
  refine lv_iconst (v := 4) hx hb dX6_getsBy_28 rfl ?_
  refine ro_i (run_V (As := [.int (i), .int (4)]) (rest := [.int (yFact rg i 4)]) hC.1 ckX7_fact (kX7_fact l g a r i 4 hw) (gw_in m_691 rfl) (fb_ro _ _ _) (va_recv hK.1 (kP_app.mp (kP_app.mp (kP_app.mp hP).2).2).1 (q0 := 0) rfl rfl) (fun U hU hW => ⟨by rw [hU]; exact (kP_app.mp (kP_app.mp (kP_app.mp hP).2).2).1, kK_warm hW hK⟩) ⟨rfl, rfl, Nat.le_of_ble_eq_true rfl, Nat.le_of_ble_eq_true rfl⟩ rfl hl.1 rfl (Nat.le_of_ble_eq_true rfl) dX6_getsBy_29 ⟨Nat.le_of_ble_eq_true rfl, Nat.le_of_ble_eq_true rfl⟩) ?_
  refine lv_isub hx hb dX6_getsBy_32 ?_
  refine lv_istore (lv' := [(4, .int ((yFact rg i 4) - (yFact r i 4))), (3, .int ((yFact rg i 5) - (yFact r i 5))), (0, .ref (t 0)), (1, .ref (a 0)), (2, .int (i))]) hx hb dX6_getsBy_33 hl (by decide) rfl (fun ls hl => ?_)
  refine lv_iconst (v := 3) hx hb dX6_getsBy_35 rfl ?_
  refine lv_iload_n hx hb dX6_getsBy_36 rfl (lv_at hl 1 rfl) ?_
  refine lv_imul hx hb dX6_getsBy_37 ?_
  refine lv_iload hx hb dX6_getsBy_38 (lv_at hl 0 rfl) ?_
  refine lv_isub hx hb dX6_getsBy_40 ?_
  exact ret_roi hx hb hr hlk (by rfl) dX6_getsBy_41
set_option maxHeartbeats 4000000 in
set_option maxRecDepth 100000 in
theorem kX6_weigh (l : Launch) (g : gG) (t c : Nat → Nat) (sg : Nat → Nat) (bs bc : Int32) (p1 p2 p3 p4 p5 rg : Nat → Int32) (a : Nat → Nat) (r : Nat → Int32) (n : Nat) (hw : Wf r) (hn : n < 36) : Met l yX6_weigh (.code yX6_weigh cX6_weigh 5 none :: gw) (rmN 5) (va_Pc [.ref (t 0), .ref (a 0), .int (nI n)] (rwPre g (tW g t (c 0) sg bs bc p1 p2 p3 p4 p5 ++ (yW g c rg ++ (yW g a r ++ []))))) (rwQv g (tW g t (c 0) sg bs bc p1 p2 p3 p4 p5 ++ (yW g c rg ++ (yW g a r ++ []))) (tW g t (c 0) sg bs bc p1 p2 (upd p3 n (gtB (fgt true (nI (n / 6)) (nI (n % 6)) 60 0 r).2 r (nI (n / 6)))) (upd p4 n (gtB (fgt true (nI (n / 6)) (nI (n % 6)) 60 0 r).2 r (nI (n % 6)))) p5 ++ (yW g c (fgt true (nI (n / 6)) (nI (n % 6)) 60 0 r).2 ++ (yW g a r ++ [])))) 0 0 (dm (tW g t (c 0) sg bs bc p1 p2 p3 p4 p5 ++ (yW g c rg ++ (yW g a r ++ [])))) := by
  refine met_start (by decide) (Nat.le_of_ble_eq_true rfl) ?_
  intro pp ee ss mm bl mt cd hC hpre ls hl
  obtain ⟨⟨hx, hb, hml, hown, hts⟩, hr, hlk, hnm⟩ := id hC
  have hl : lv_has ls 5 [(0, .ref (t 0)), (1, .ref (a 0)), (2, .int (nI n))] := hl
  obtain ⟨hP, hK, hD⟩ := hpre
  have hS : va_S (dm (tW g t (c 0) sg bs bc p1 p2 p3 p4 p5 ++ (yW g c rg ++ (yW g a r ++ [])))) ss.heap ss.heap [] := va_S.rf
  have hD := vD_self hD
  refine lv_iload_n hx hb dX6_weigh_0 rfl (lv_at hl 2 rfl) ?_
  refine lv_iconst (v := 0) hx hb dX6_weigh_1 rfl ?_
  refine lv_bipush (v := 35) hx hb dX6_weigh_2 rfl ?_
  refine ro_i (run_SN (As := [.int (nI n), .int (0), .int (35)]) (rest := []) hC.1 ckX8_within (kX8_within l (nI n) 0 35) (hK.2.2 _ _ _ _ m_690) (fb_nil _) (fun _ _ _ => trivial) ⟨rfl, rfl, Nat.le_of_ble_eq_true rfl, Nat.le_of_ble_eq_true rfl⟩ rfl hl.1 rfl (Nat.le_of_ble_eq_true rfl) dX6_weigh_4 ⟨Nat.le_of_ble_eq_true rfl, Nat.le_of_ble_eq_true rfl⟩) ?_
  refine lv_if_ne (tgt := 11) hx hb dX6_weigh_7 (by decide) (fun c1 => ?_) (fun c1 => ?_)
  · skip
    have c1 := b2i_1 c1
    refine lv_iload_n hx hb dX6_weigh_11 rfl (lv_at hl 2 rfl) ?_
    refine lv_bipush (v := 6) hx hb dX6_weigh_12 rfl ?_
    refine lv_idiv hx hb dX6_weigh_14 (by decide) ?_
    refine top_i (x := (nI n) / 6) (y := nI (n / 6)) (pk_div (d := 6) (by omega) (by omega) (by omega)) ?_
    refine lv_istore_n (lv' := [(3, .int (nI (n / 6))), (0, .ref (t 0)), (1, .ref (a 0)), (2, .int (nI n))]) hx hb dX6_weigh_15 rfl hl (by decide) rfl (fun ls hl => ?_)
    refine lv_iload_n hx hb dX6_weigh_16 rfl (lv_at hl 3 rfl) ?_
    refine lv_bipush (v := 6) hx hb dX6_weigh_17 rfl ?_
    refine lv_irem hx hb dX6_weigh_19 (by decide) ?_
    refine top_i (x := (nI n) - (nI n) / 6 * 6) (y := nI (n % 6)) (pk_rem (d := 6) (by omega) (by omega) (by omega)) ?_
    refine lv_istore (lv' := [(4, .int (nI (n % 6))), (3, .int (nI (n / 6))), (0, .ref (t 0)), (1, .ref (a 0)), (2, .int (nI n))]) hx hb dX6_weigh_20 hl (by decide) rfl (fun ls hl => ?_)
    refine lv_aload_n hx hb dX6_weigh_22 rfl (lv_at hl 2 rfl) ?_
    refine kget hC.1 hK (kP_app.mp hP).1 0 rfl rfl in_6 0 (by decide) (gw_in m_241 rfl) rfl dX6_weigh_23 ?_
    refine lv_aload_n hx hb dX6_weigh_26 rfl (lv_at hl 3 rfl) ?_
    have hP : kP g (yW g c rg ++ (yW g a r ++ (tW g t (c 0) sg bs bc p1 p2 p3 p4 p5 ++ []))) _ := kP_perm ((pm_swap _ _ _).trans (pmA _ (pm_swap _ _ _))) hP
    have hD : va_D _ (yW g c rg ++ (yW g a r ++ (tW g t (c 0) sg bs bc p1 p2 p3 p4 p5 ++ []))) := vD_perm ((pm_swap _ _ _).trans (pmA _ (pm_swap _ _ _))) hD
    refine rw_v (run_V (As := [.ref (a 0)]) (rest := []) hC.1 ckX7_copyOf (kX7_copyOf l g c a rg r) (gw_in m_647 rfl) (fb_rw _ _ _) (va_recv hK.1 (kP_app.mp hP).1 (q0 := 0) rfl rfl) (fun U hU hW => ⟨by rw [hU]; exact (kP_app.mpr ⟨(kP_app.mp hP).1, (kP_app.mpr ⟨(kP_app.mp (kP_app.mp hP).2).1, kP_nil⟩)⟩), kK_warm hW hK, vD_sub (sbA _ (sbA _ (sb0 _))) hD⟩) ⟨rfl, rfl, Nat.le_of_ble_eq_true rfl, Nat.le_of_ble_eq_true rfl⟩ rfl hl.1 rfl (Nat.le_of_ble_eq_true rfl) dX6_weigh_27 ⟨Nat.le_of_ble_eq_true rfl, Nat.le_of_ble_eq_true rfl⟩) (adr_app yW_adr (adr_app rfl rfl)) (asc2 _ _ _) (ww' := yW g c r ++ (yW g a r ++ (tW g t (c 0) sg bs bc p1 p2 p3 p4 p5 ++ []))) (asc2 _ _ _) hP hD hS (fun H locs hP hD hS => ?_)
    refine lv_aload_n hx hb dX6_weigh_30 rfl (lv_at hl 2 rfl) ?_
    refine kget hC.1 hK (kP_app.mp (kP_app.mp (kP_app.mp hP).2).2).1 0 rfl rfl in_6 0 (by decide) (gw_in m_241 rfl) rfl dX6_weigh_31 ?_
    refine lv_iload_n hx hb dX6_weigh_34 rfl (lv_at hl 1 rfl) ?_
    refine lv_iload hx hb dX6_weigh_35 (lv_at hl 0 rfl) ?_
    refine lv_iconst (v := 1) hx hb dX6_weigh_37 rfl ?_
    refine rw_i (run_S (As := [.ref (c 0), .int (nI (n / 6)), .int (nI (n % 6)), .int (1)]) (rest := []) hC.1 ckX6_fight (kX6_fight l g c r (nI (n / 6)) (nI (n % 6)) true hw) (gw_in m_648 rfl) (fb_rw _ _ _) (fun U hU hW => ⟨by rw [hU]; exact (kP_app.mpr ⟨(kP_app.mp hP).1, kP_nil⟩), kK_warm hW hK, vD_sub (sbA _ (sb0 _)) hD⟩) ⟨rfl, rfl, Nat.le_of_ble_eq_true rfl, Nat.le_of_ble_eq_true rfl⟩ rfl hl.1 rfl (Nat.le_of_ble_eq_true rfl) dX6_weigh_38 ⟨Nat.le_of_ble_eq_true rfl, Nat.le_of_ble_eq_true rfl⟩) (adr_app yW_adr rfl) (asc1 _ _) (ww' := yW g c (fgt true (nI (n / 6)) (nI (n % 6)) 60 0 r).2 ++ (yW g a r ++ (tW g t (c 0) sg bs bc p1 p2 p3 p4 p5 ++ []))) (asc1 _ _) hP hD hS (fun H locs hP hD hS => ?_)
    refine lv_pop hx hb dX6_weigh_41 rfl ?_
    refine lv_aload_n hx hb dX6_weigh_42 rfl (lv_at hl 2 rfl) ?_
    refine kget hC.1 hK (kP_app.mp (kP_app.mp (kP_app.mp hP).2).2).1 0 rfl rfl in_6 6 (by decide) (gw_in m_250 rfl) rfl dX6_weigh_43 ?_
    refine lv_iload_n hx hb dX6_weigh_46 rfl (lv_at hl 4 rfl) ?_
    refine lv_aload_n hx hb dX6_weigh_47 rfl (lv_at hl 2 rfl) ?_
    refine lv_aload_n hx hb dX6_weigh_48 rfl (lv_at hl 3 rfl) ?_
    refine lv_iload_n hx hb dX6_weigh_49 rfl (lv_at hl 1 rfl) ?_
    refine ro_i (run_V (As := [.ref (a 0), .int (nI (n / 6))]) (rest := [.int (nI n), .ref (t 4)]) hC.1 ckX6_getsBy (kX6_getsBy l g t c sg bs bc p1 p2 p3 p4 p5 (fgt true (nI (n / 6)) (nI (n % 6)) 60 0 r).2 a r (nI (n / 6)) hw (Wf_fgt hw)) (gw_in m_840 rfl) (fb_ro _ _ _) (va_recv hK.1 (kP_app.mp (kP_app.mp (kP_app.mp hP).2).2).1 (q0 := 0) rfl rfl) (fun U hU hW => ⟨by rw [hU]; exact (kP_app.mpr ⟨(kP_app.mp (kP_app.mp (kP_app.mp hP).2).2).1, (kP_app.mpr ⟨(kP_app.mp hP).1, (kP_app.mpr ⟨(kP_app.mp (kP_app.mp hP).2).1, (kP_mem.mpr (fun _ h => absurd h List.not_mem_nil))⟩)⟩)⟩), kK_warm hW hK⟩) ⟨rfl, rfl, Nat.le_of_ble_eq_true rfl, Nat.le_of_ble_eq_true rfl⟩ rfl hl.1 rfl (Nat.le_of_ble_eq_true rfl) dX6_weigh_50 ⟨Nat.le_of_ble_eq_true rfl, Nat.le_of_ble_eq_true rfl⟩) ?_
    have hP : kP g (tW g t (c 0) sg bs bc p1 p2 p3 p4 p5 ++ (yW g c (fgt true (nI (n / 6)) (nI (n % 6)) 60 0 r).2 ++ (yW g a r ++ []))) _ := kP_perm ((pmA _ (pm_swap _ _ _)).trans (pm_swap _ _ _)) hP
    have hD : va_D _ (tW g t (c 0) sg bs bc p1 p2 p3 p4 p5 ++ (yW g c (fgt true (nI (n / 6)) (nI (n % 6)) 60 0 r).2 ++ (yW g a r ++ []))) := vD_perm ((pmA _ (pm_swap _ _ _)).trans (pm_swap _ _ _)) hD
    refine kast (B' := tW g t (c 0) sg bs bc p1 p2 (upd p3 (cl (nI n)) (gtB (fgt true (nI (n / 6)) (nI (n % 6)) 60 0 r).2 r (nI (n / 6)))) p4 p5) hC.1 hK hP hD hS 4 rfl (vp_in_nI hn (by omega)) (fun _ h => h) tW_adr dX6_weigh_53 (fun H locs hP hD hS => ?_)
    refine lv_aload_n hx hb dX6_weigh_54 rfl (lv_at hl 2 rfl) ?_
    refine kget hC.1 hK (kP_app.mp hP).1 0 rfl rfl in_6 7 (by decide) (gw_in m_251 rfl) rfl dX6_weigh_55 ?_
    refine lv_iload_n hx hb dX6_weigh_58 rfl (lv_at hl 4 rfl) ?_
    refine lv_aload_n hx hb dX6_weigh_59 rfl (lv_at hl 2 rfl) ?_
    refine lv_aload_n hx hb dX6_weigh_60 rfl (lv_at hl 3 rfl) ?_
    refine lv_iload hx hb dX6_weigh_61 (lv_at hl 0 rfl) ?_
    refine ro_i (run_V (As := [.ref (a 0), .int (nI (n % 6))]) (rest := [.int (nI n), .ref (t 5)]) hC.1 ckX6_getsBy (kX6_getsBy l g t c sg bs bc p1 p2 (upd p3 (cl (nI n)) (gtB (fgt true (nI (n / 6)) (nI (n % 6)) 60 0 r).2 r (nI (n / 6)))) p4 p5 (fgt true (nI (n / 6)) (nI (n % 6)) 60 0 r).2 a r (nI (n % 6)) hw (Wf_fgt hw)) (gw_in m_840 rfl) (fb_ro _ _ _) (va_recv hK.1 (kP_app.mp hP).1 (q0 := 0) rfl rfl) (fun U hU hW => ⟨by rw [hU]; exact (kP_app.mpr ⟨(kP_app.mp hP).1, (kP_app.mpr ⟨(kP_app.mp (kP_app.mp hP).2).1, (kP_app.mpr ⟨(kP_app.mp (kP_app.mp (kP_app.mp hP).2).2).1, (kP_mem.mpr (fun _ h => absurd h List.not_mem_nil))⟩)⟩)⟩), kK_warm hW hK⟩) ⟨rfl, rfl, Nat.le_of_ble_eq_true rfl, Nat.le_of_ble_eq_true rfl⟩ rfl hl.1 rfl (Nat.le_of_ble_eq_true rfl) dX6_weigh_63 ⟨Nat.le_of_ble_eq_true rfl, Nat.le_of_ble_eq_true rfl⟩) ?_
    refine kast (B' := tW g t (c 0) sg bs bc p1 p2 (upd p3 (cl (nI n)) (gtB (fgt true (nI (n / 6)) (nI (n % 6)) 60 0 r).2 r (nI (n / 6)))) (upd p4 (cl (nI n)) (gtB (fgt true (nI (n / 6)) (nI (n % 6)) 60 0 r).2 r (nI (n % 6)))) p5) hC.1 hK hP hD hS 5 rfl (vp_in_nI hn (by omega)) (fun _ h => h) tW_adr dX6_weigh_66 (fun H locs hP hD hS => ?_)
    exact ret_rwv hx hb hr hlk (by rw [cl_nI (by omega)] at hP; exact hP) hS dX6_weigh_67
  · skip
    have c1 := b2i_0 c1
    exact absurd (show wth (nI n) 0 35 = true from wth_nI (m := 35) (by omega : n ≤ 35)) (by rw [c1]; decide)
set_option maxHeartbeats 4000000 in
set_option maxRecDepth 100000 in
theorem kX6_restingPair (l : Launch) (g : gG) (t c : Nat → Nat) (sg : Nat → Nat) (bs bc : Int32) (p1 p2 p3 p4 p5 rg : Nat → Int32) (k : Int32) : Met l yX6_restingPair (.code yX6_restingPair cX6_restingPair 2 (some .int) :: gw) (rmN 1) (va_Pc [.ref (t 0), .int (k)] (roPre g (tW g t (c 0) sg bs bc p1 p2 p3 p4 p5 ++ (yW g c rg ++ [])))) (vp_Si (fun v => v = (if wth k 0 35 = true then p5 (cl k) else -1))) 0 0 (fun _ => False) := by
  refine met_start (by decide) (Nat.le_of_ble_eq_true rfl) ?_
  intro pp ee ss mm bl mt cd hC hpre ls hl
  obtain ⟨⟨hx, hb, hml, hown, hts⟩, hr, hlk, hnm⟩ := id hC
  have hl : lv_has ls 2 [(0, .ref (t 0)), (1, .int (k))] := hl
  obtain ⟨hP, hK⟩ := hpre
  refine lv_iload_n hx hb dX6_restingPair_0 rfl (lv_at hl 1 rfl) ?_
  refine lv_iconst (v := 0) hx hb dX6_restingPair_1 rfl ?_
  refine lv_bipush (v := 35) hx hb dX6_restingPair_2 rfl ?_
  refine ro_i (run_SN (As := [.int (k), .int (0), .int (35)]) (rest := []) hC.1 ckX8_within (kX8_within l k 0 35) (hK.2.2 _ _ _ _ m_690) (fb_nil _) (fun _ _ _ => trivial) ⟨rfl, rfl, Nat.le_of_ble_eq_true rfl, Nat.le_of_ble_eq_true rfl⟩ rfl hl.1 rfl (Nat.le_of_ble_eq_true rfl) dX6_restingPair_4 ⟨Nat.le_of_ble_eq_true rfl, Nat.le_of_ble_eq_true rfl⟩) ?_
  refine lv_if_eq (tgt := 19) hx hb dX6_restingPair_7 (by decide) (fun c1 => ?_) (fun c1 => ?_)
  · skip
    have c1 := b2i_0 c1
    refine lv_iconst (v := -1) hx hb dX6_restingPair_19 rfl ?_
    exact ret_roi hx hb hr hlk (by simp [c1]) dX6_restingPair_20
  · skip
    have c1 := b2i_1 c1
    refine lv_aload_n hx hb dX6_restingPair_10 rfl (lv_at hl 0 rfl) ?_
    refine kget hC.1 hK (kP_app.mp hP).1 0 rfl rfl in_6 8 (by decide) (gw_in m_252 rfl) rfl dX6_restingPair_11 ?_
    refine lv_iload_n hx hb dX6_restingPair_14 rfl (lv_at hl 1 rfl) ?_
    refine kald (v := p5 (cl k)) hC.1 hK (kP_app.mp hP).1 6 rfl (wth_in35 c1) rfl dX6_restingPair_15 ?_
    refine lv_goto (tgt := 20) hx hb dX6_restingPair_16 (by decide) ?_
    exact ret_roi hx hb hr hlk (by simp [c1]) dX6_restingPair_20
set_option maxHeartbeats 4000000 in
set_option maxRecDepth 100000 in
theorem kX6_inOrder (l : Launch) (g : gG) (t c : Nat → Nat) (sg : Nat → Nat) (bs bc : Int32) (p1 p2 p3 p4 p5 rg : Nat → Int32) (k : Int32) : Met l yX6_inOrder (.code yX6_inOrder cX6_inOrder 2 (some .int) :: gw) (rmN 1) (va_Pc [.ref (t 0), .int (k)] (roPre g (tW g t (c 0) sg bs bc p1 p2 p3 p4 p5 ++ (yW g c rg ++ [])))) (vp_Si (fun v => v = (if wth k 0 5 = true then p2 (cl k) else -1))) 0 0 (fun _ => False) := by
  refine met_start (by decide) (Nat.le_of_ble_eq_true rfl) ?_
  intro pp ee ss mm bl mt cd hC hpre ls hl
  obtain ⟨⟨hx, hb, hml, hown, hts⟩, hr, hlk, hnm⟩ := id hC
  have hl : lv_has ls 2 [(0, .ref (t 0)), (1, .int (k))] := hl
  obtain ⟨hP, hK⟩ := hpre
  refine lv_iload_n hx hb dX6_inOrder_0 rfl (lv_at hl 1 rfl) ?_
  refine lv_iconst (v := 0) hx hb dX6_inOrder_1 rfl ?_
  refine lv_iconst (v := 5) hx hb dX6_inOrder_2 rfl ?_
  refine ro_i (run_SN (As := [.int (k), .int (0), .int (5)]) (rest := []) hC.1 ckX8_within (kX8_within l k 0 5) (hK.2.2 _ _ _ _ m_690) (fb_nil _) (fun _ _ _ => trivial) ⟨rfl, rfl, Nat.le_of_ble_eq_true rfl, Nat.le_of_ble_eq_true rfl⟩ rfl hl.1 rfl (Nat.le_of_ble_eq_true rfl) dX6_inOrder_3 ⟨Nat.le_of_ble_eq_true rfl, Nat.le_of_ble_eq_true rfl⟩) ?_
  refine lv_if_eq (tgt := 18) hx hb dX6_inOrder_6 (by decide) (fun c1 => ?_) (fun c1 => ?_)
  · skip
    have c1 := b2i_0 c1
    refine lv_iconst (v := -1) hx hb dX6_inOrder_18 rfl ?_
    exact ret_roi hx hb hr hlk (by simp [c1]) dX6_inOrder_19
  · skip
    have c1 := b2i_1 c1
    refine lv_aload_n hx hb dX6_inOrder_9 rfl (lv_at hl 0 rfl) ?_
    refine kget hC.1 hK (kP_app.mp hP).1 0 rfl rfl in_6 5 (by decide) (gw_in m_249 rfl) rfl dX6_inOrder_10 ?_
    refine lv_iload_n hx hb dX6_inOrder_13 rfl (lv_at hl 1 rfl) ?_
    refine kald (v := p2 (cl k)) hC.1 hK (kP_app.mp hP).1 3 rfl (wth_in5 c1) rfl dX6_inOrder_14 ?_
    refine lv_goto (tgt := 19) hx hb dX6_inOrder_15 (by decide) ?_
    exact ret_roi hx hb hr hlk (by simp [c1]) dX6_inOrder_19
set_option maxHeartbeats 4000000 in
set_option maxRecDepth 100000 in
theorem kX6_rests (l : Launch) (g : gG) (t c : Nat → Nat) (sg : Nat → Nat) (bs bc : Int32) (p1 p2 p3 p4 p5 rg : Nat → Int32) (a : Nat → Nat) (r : Nat → Int32) (p q : Int32) (n : Nat) (hw : Wf r) (hn : n < 36) : Met l yX6_rests (.code yX6_rests cX6_rests 10 (some .boolean) :: gw) (rmN 3) (va_Pc [.ref (t 0), .ref (a 0), .int (p), .int (q), .int (nI n)] (roPre g (tW g t (c 0) sg bs bc p1 p2 p3 p4 p5 ++ (yW g c rg ++ (yW g a r ++ []))))) (vp_Si (fun v => v = (b2i (rsB r p q p3 p4 n)))) 0 0 (fun _ => False) := by
  refine met_start (by decide) (Nat.le_of_ble_eq_true rfl) ?_
  intro pp ee ss mm bl mt cd hC hpre ls hl
  obtain ⟨⟨hx, hb, hml, hown, hts⟩, hr, hlk, hnm⟩ := id hC
  have hl : lv_has ls 10 [(0, .ref (t 0)), (1, .ref (a 0)), (2, .int (p)), (3, .int (q)), (4, .int (nI n))] := hl
  obtain ⟨hP, hK⟩ := hpre
  refine lv_iload hx hb dX6_rests_0 (lv_at hl 4 rfl) ?_
  refine lv_iconst (v := 0) hx hb dX6_rests_2 rfl ?_
  refine lv_bipush (v := 35) hx hb dX6_rests_3 rfl ?_
  refine ro_i (run_SN (As := [.int (nI n), .int (0), .int (35)]) (rest := []) hC.1 ckX8_within (kX8_within l (nI n) 0 35) (hK.2.2 _ _ _ _ m_690) (fb_nil _) (fun _ _ _ => trivial) ⟨rfl, rfl, Nat.le_of_ble_eq_true rfl, Nat.le_of_ble_eq_true rfl⟩ rfl hl.1 rfl (Nat.le_of_ble_eq_true rfl) dX6_rests_5 ⟨Nat.le_of_ble_eq_true rfl, Nat.le_of_ble_eq_true rfl⟩) ?_
  refine lv_if_ne (tgt := 13) hx hb dX6_rests_8 (by decide) (fun c1 => ?_) (fun c1 => ?_)
  · skip
    have c1 := b2i_1 c1
    refine lv_iload hx hb dX6_rests_13 (lv_at hl 4 rfl) ?_
    refine lv_bipush (v := 6) hx hb dX6_rests_15 rfl ?_
    refine lv_idiv hx hb dX6_rests_17 (by decide) ?_
    refine top_i (x := (nI n) / 6) (y := nI (n / 6)) (pk_div (d := 6) (by omega) (by omega) (by omega)) ?_
    refine lv_istore (lv' := [(5, .int (nI (n / 6))), (0, .ref (t 0)), (1, .ref (a 0)), (2, .int (p)), (3, .int (q)), (4, .int (nI n))]) hx hb dX6_rests_18 hl (by decide) rfl (fun ls hl => ?_)
    refine lv_iload hx hb dX6_rests_20 (lv_at hl 5 rfl) ?_
    refine lv_bipush (v := 6) hx hb dX6_rests_22 rfl ?_
    refine lv_irem hx hb dX6_rests_24 (by decide) ?_
    refine top_i (x := (nI n) - (nI n) / 6 * 6) (y := nI (n % 6)) (pk_rem (d := 6) (by omega) (by omega) (by omega)) ?_
    refine lv_istore (lv' := [(6, .int (nI (n % 6))), (5, .int (nI (n / 6))), (0, .ref (t 0)), (1, .ref (a 0)), (2, .int (p)), (3, .int (q)), (4, .int (nI n))]) hx hb dX6_rests_25 hl (by decide) rfl (fun ls hl => ?_)
    refine lv_iconst (v := 0) hx hb dX6_rests_27 rfl ?_
    refine lv_istore (lv' := [(7, .int (0)), (6, .int (nI (n % 6))), (5, .int (nI (n / 6))), (0, .ref (t 0)), (1, .ref (a 0)), (2, .int (p)), (3, .int (q)), (4, .int (nI n))]) hx hb dX6_rests_28 hl (by decide) rfl (fun ls hl => ?_)
    have cut30 : ∀ kk : Nat, ∀ (o : Nat), 7 - o < kk → (ho : o ≤ 6) → (hall : ∀ z, z < o → rsK r p q p3 p4 n z = true) → ∀ (ls : Array Slot), lv_has ls 10 [(0, .ref (t 0)), (1, .ref (a 0)), (2, .int (p)), (3, .int (q)), (4, .int (nI n)), (5, .int (nI (n / 6))), (6, .int (nI (n % 6))), (7, .int (nI o))] → W pp l ee (rmN 3) ss mm ([.ref (t 0), .ref (a 0), .int (p), .int (q), .int (nI n)] : List Value).toArray bl mt cd ss.heap [] 0 0 (MQ bl (vp_Si (fun v => v = (b2i (rsB r p q p3 p4 n)))) ([.ref (t 0), .ref (a 0), .int (p), .int (q), .int (nI n)] : List Value).toArray ss 0 0 (fun _ => False)) (F0 mm 30 ls []) := by
      intro kk
      induction kk with
      | zero => intro o hmu; exact absurd hmu (Nat.not_lt_zero _)
      | succ kk ih30 =>
        intro o hmu ho hall ls hl
        refine lv_iload hx hb dX6_rests_30 (lv_at hl 7 rfl) ?_
        refine lv_bipush (v := 6) hx hb dX6_rests_32 rfl ?_
        refine lv_icmp_ge (tgt := 121) hx hb dX6_rests_34 (by decide) (fun c2 => ?_) (fun c2 => ?_)
        · skip
          have c2' := Int32.not_lt.mpr c2
          have ho9 : o = 6 := by have := lp_ge (by omega) c2; rw [show (6 : Int32).toInt = 6 from rfl] at this; omega
          subst ho9
          refine lv_iconst (v := 1) hx hb dX6_rests_121 rfl ?_
          exact ret_roz hx hb hr hlk rfl (by rw [rsB_t hall]; rfl) dX6_rests_122
        · skip
          have c2' := Int32.not_le.mp c2
          have ho9 : o < 6 := by have := lp_lt (by omega) c2; rw [show (6 : Int32).toInt = 6 from rfl] at this; omega
          refine lv_bipush (v := 6) hx hb dX6_rests_37 rfl ?_
          refine lv_iload hx hb dX6_rests_39 (lv_at hl 7 rfl) ?_
          refine lv_imul hx hb dX6_rests_41 ?_
          refine lv_iload hx hb dX6_rests_42 (lv_at hl 6 rfl) ?_
          refine lv_iadd hx hb dX6_rests_44 ?_
          refine top_i (x := (6 * (nI o)) + (nI (n % 6))) (y := nI (6 * o + n % 6)) (by rw [show (6 : Int32) = nI 6 from rfl, pk_mul, nI_add]) ?_
          refine lv_istore (lv' := [(8, .int (nI (6 * o + n % 6))), (0, .ref (t 0)), (1, .ref (a 0)), (2, .int (p)), (3, .int (q)), (4, .int (nI n)), (5, .int (nI (n / 6))), (6, .int (nI (n % 6))), (7, .int (nI o))]) hx hb dX6_rests_45 hl (by decide) rfl (fun ls hl => ?_)
          refine lv_bipush (v := 6) hx hb dX6_rests_47 rfl ?_
          refine lv_iload hx hb dX6_rests_49 (lv_at hl 6 rfl) ?_
          refine lv_imul hx hb dX6_rests_51 ?_
          refine lv_iload hx hb dX6_rests_52 (lv_at hl 8 rfl) ?_
          refine lv_iadd hx hb dX6_rests_54 ?_
          refine top_i (x := (6 * (nI (n / 6))) + (nI o)) (y := nI (6 * (n / 6) + o)) (by rw [show (6 : Int32) = nI 6 from rfl, pk_mul, nI_add]) ?_
          refine lv_istore (lv' := [(9, .int (nI (6 * (n / 6) + o))), (8, .int (nI (6 * o + n % 6))), (0, .ref (t 0)), (1, .ref (a 0)), (2, .int (p)), (3, .int (q)), (4, .int (nI n)), (5, .int (nI (n / 6))), (6, .int (nI (n % 6))), (7, .int (nI o))]) hx hb dX6_rests_55 hl (by decide) rfl (fun ls hl => ?_)
          refine lv_aload_n hx hb dX6_rests_57 rfl (lv_at hl 3 rfl) ?_
          refine lv_iload hx hb dX6_rests_58 (lv_at hl 9 rfl) ?_
          refine lv_iload_n hx hb dX6_rests_60 rfl (lv_at hl 4 rfl) ?_
          refine ro_i (run_V (As := [.int (nI o), .int (p)]) (rest := []) hC.1 ckX7_isWholeOf (kX7_isWholeOf l g a r (nI o) p hw.n6) (gw_in m_732 rfl) (fb_ro _ _ _) (va_recv hK.1 (kP_app.mp (kP_app.mp (kP_app.mp hP).2).2).1 (q0 := 0) rfl rfl) (fun U hU hW => ⟨by rw [hU]; exact (kP_app.mp (kP_app.mp (kP_app.mp hP).2).2).1, kK_warm hW hK⟩) ⟨rfl, rfl, Nat.le_of_ble_eq_true rfl, Nat.le_of_ble_eq_true rfl⟩ rfl hl.1 rfl (Nat.le_of_ble_eq_true rfl) dX6_rests_61 ⟨Nat.le_of_ble_eq_true rfl, Nat.le_of_ble_eq_true rfl⟩) ?_
          refine lv_if_eq (tgt := 86) hx hb dX6_rests_64 (by decide) (fun c3 => ?_) (fun c3 => ?_)
          · skip
            have c3 := b2i_0 c3
            refine lv_aload_n hx hb dX6_rests_86 rfl (lv_at hl 3 rfl) ?_
            refine lv_iload hx hb dX6_rests_87 (lv_at hl 9 rfl) ?_
            refine lv_iload_n hx hb dX6_rests_89 rfl (lv_at hl 5 rfl) ?_
            refine ro_i (run_V (As := [.int (nI o), .int (q)]) (rest := []) hC.1 ckX7_isWholeOf (kX7_isWholeOf l g a r (nI o) q hw.n6) (gw_in m_732 rfl) (fb_ro _ _ _) (va_recv hK.1 (kP_app.mp (kP_app.mp (kP_app.mp hP).2).2).1 (q0 := 0) rfl rfl) (fun U hU hW => ⟨by rw [hU]; exact (kP_app.mp (kP_app.mp (kP_app.mp hP).2).2).1, kK_warm hW hK⟩) ⟨rfl, rfl, Nat.le_of_ble_eq_true rfl, Nat.le_of_ble_eq_true rfl⟩ rfl hl.1 rfl (Nat.le_of_ble_eq_true rfl) dX6_rests_90 ⟨Nat.le_of_ble_eq_true rfl, Nat.le_of_ble_eq_true rfl⟩) ?_
            refine lv_if_eq (tgt := 115) hx hb dX6_rests_93 (by decide) (fun c4 => ?_) (fun c4 => ?_)
            · skip
              have c4 := b2i_0 c4
              refine lv_iinc (v := nI (o + 1)) (lv' := [(7, .int (nI (o + 1))), (9, .int (nI (6 * (n / 6) + o))), (8, .int (nI (6 * o + n % 6))), (0, .ref (t 0)), (1, .ref (a 0)), (2, .int (p)), (3, .int (q)), (4, .int (nI n)), (5, .int (nI (n / 6))), (6, .int (nI (n % 6)))]) hx hb dX6_rests_115 hl (k := 9) rfl (inc_nI o) (by decide) rfl (fun ls hl => ?_)
              refine lv_goto (tgt := 30) hx hb dX6_rests_118 (by decide) ?_
              exact ih30 (o + 1) (by omega) (by omega) (lt_s hall (by unfold rsK; simp [ho, hall, c2, c2', c3, c4])) _ (lv_sub hl [3, 4, 5, 6, 7, 8, 9, 0] rfl)
            · skip
              have c4 := b2i_1 c4
              refine lv_aload_n hx hb dX6_rests_96 rfl (lv_at hl 2 rfl) ?_
              refine kget hC.1 hK (kP_app.mp hP).1 0 rfl rfl in_6 7 (by decide) (gw_in m_251 rfl) rfl dX6_rests_97 ?_
              refine lv_iload hx hb dX6_rests_100 (lv_at hl 0 rfl) ?_
              refine kald (v := p4 (6 * (n / 6) + o)) hC.1 hK (kP_app.mp hP).1 5 rfl (vp_in_nI (by omega) (by omega)) (by rw [cl_nI (by omega)]) dX6_rests_102 ?_
              refine lv_aload_n hx hb dX6_rests_103 rfl (lv_at hl 2 rfl) ?_
              refine kget hC.1 hK (kP_app.mp hP).1 0 rfl rfl in_6 7 (by decide) (gw_in m_251 rfl) rfl dX6_rests_104 ?_
              refine lv_iload hx hb dX6_rests_107 (lv_at hl 6 rfl) ?_
              refine kald (v := p4 n) hC.1 hK (kP_app.mp hP).1 5 rfl (vp_in_nI hn (by omega)) (by rw [cl_nI (by omega)]) dX6_rests_109 ?_
              refine lv_icmp_le (tgt := 115) hx hb dX6_rests_110 (by decide) (fun c5 => ?_) (fun c5 => ?_)
              · skip
                have c5' := Int32.not_lt.mpr c5
                refine lv_iinc (v := nI (o + 1)) (lv' := [(7, .int (nI (o + 1))), (9, .int (nI (6 * (n / 6) + o))), (8, .int (nI (6 * o + n % 6))), (0, .ref (t 0)), (1, .ref (a 0)), (2, .int (p)), (3, .int (q)), (4, .int (nI n)), (5, .int (nI (n / 6))), (6, .int (nI (n % 6)))]) hx hb dX6_rests_115 hl (k := 9) rfl (inc_nI o) (by decide) rfl (fun ls hl => ?_)
                refine lv_goto (tgt := 30) hx hb dX6_rests_118 (by decide) ?_
                exact ih30 (o + 1) (by omega) (by omega) (lt_s hall (by unfold rsK; simp [ho, hall, c2, c2', c3, c4, c5, c5'])) _ (lv_sub hl [3, 4, 5, 6, 7, 8, 9, 0] rfl)
              · skip
                have c5' := Int32.not_le.mp c5
                refine lv_iconst (v := 0) hx hb dX6_rests_113 rfl ?_
                exact ret_roz hx hb hr hlk rfl (by rw [rsB_f ho9 (by unfold rsK; simp [ho, hall, c2, c2', c3, c4, c5, c5'])]; rfl) dX6_rests_114
          · skip
            have c3 := b2i_1 c3
            refine lv_aload_n hx hb dX6_rests_67 rfl (lv_at hl 2 rfl) ?_
            refine kget hC.1 hK (kP_app.mp hP).1 0 rfl rfl in_6 6 (by decide) (gw_in m_250 rfl) rfl dX6_rests_68 ?_
            refine lv_iload hx hb dX6_rests_71 (lv_at hl 1 rfl) ?_
            refine kald (v := p3 (6 * o + n % 6)) hC.1 hK (kP_app.mp hP).1 4 rfl (vp_in_nI (by omega) (by omega)) (by rw [cl_nI (by omega)]) dX6_rests_73 ?_
            refine lv_aload_n hx hb dX6_rests_74 rfl (lv_at hl 2 rfl) ?_
            refine kget hC.1 hK (kP_app.mp hP).1 0 rfl rfl in_6 6 (by decide) (gw_in m_250 rfl) rfl dX6_rests_75 ?_
            refine lv_iload hx hb dX6_rests_78 (lv_at hl 6 rfl) ?_
            refine kald (v := p3 n) hC.1 hK (kP_app.mp hP).1 4 rfl (vp_in_nI hn (by omega)) (by rw [cl_nI (by omega)]) dX6_rests_80 ?_
            refine lv_icmp_le (tgt := 86) hx hb dX6_rests_81 (by decide) (fun c6 => ?_) (fun c6 => ?_)
            · skip
              have c6' := Int32.not_lt.mpr c6
              refine lv_aload_n hx hb dX6_rests_86 rfl (lv_at hl 3 rfl) ?_
              refine lv_iload hx hb dX6_rests_87 (lv_at hl 9 rfl) ?_
              refine lv_iload_n hx hb dX6_rests_89 rfl (lv_at hl 5 rfl) ?_
              refine ro_i (run_V (As := [.int (nI o), .int (q)]) (rest := []) hC.1 ckX7_isWholeOf (kX7_isWholeOf l g a r (nI o) q hw.n6) (gw_in m_732 rfl) (fb_ro _ _ _) (va_recv hK.1 (kP_app.mp (kP_app.mp (kP_app.mp hP).2).2).1 (q0 := 0) rfl rfl) (fun U hU hW => ⟨by rw [hU]; exact (kP_app.mp (kP_app.mp (kP_app.mp hP).2).2).1, kK_warm hW hK⟩) ⟨rfl, rfl, Nat.le_of_ble_eq_true rfl, Nat.le_of_ble_eq_true rfl⟩ rfl hl.1 rfl (Nat.le_of_ble_eq_true rfl) dX6_rests_90 ⟨Nat.le_of_ble_eq_true rfl, Nat.le_of_ble_eq_true rfl⟩) ?_
              refine lv_if_eq (tgt := 115) hx hb dX6_rests_93 (by decide) (fun c7 => ?_) (fun c7 => ?_)
              · skip
                have c7 := b2i_0 c7
                refine lv_iinc (v := nI (o + 1)) (lv' := [(7, .int (nI (o + 1))), (9, .int (nI (6 * (n / 6) + o))), (8, .int (nI (6 * o + n % 6))), (0, .ref (t 0)), (1, .ref (a 0)), (2, .int (p)), (3, .int (q)), (4, .int (nI n)), (5, .int (nI (n / 6))), (6, .int (nI (n % 6)))]) hx hb dX6_rests_115 hl (k := 9) rfl (inc_nI o) (by decide) rfl (fun ls hl => ?_)
                refine lv_goto (tgt := 30) hx hb dX6_rests_118 (by decide) ?_
                exact ih30 (o + 1) (by omega) (by omega) (lt_s hall (by unfold rsK; simp [ho, hall, c2, c2', c3, c6, c6', c7])) _ (lv_sub hl [3, 4, 5, 6, 7, 8, 9, 0] rfl)
              · skip
                have c7 := b2i_1 c7
                refine lv_aload_n hx hb dX6_rests_96 rfl (lv_at hl 2 rfl) ?_
                refine kget hC.1 hK (kP_app.mp hP).1 0 rfl rfl in_6 7 (by decide) (gw_in m_251 rfl) rfl dX6_rests_97 ?_
                refine lv_iload hx hb dX6_rests_100 (lv_at hl 0 rfl) ?_
                refine kald (v := p4 (6 * (n / 6) + o)) hC.1 hK (kP_app.mp hP).1 5 rfl (vp_in_nI (by omega) (by omega)) (by rw [cl_nI (by omega)]) dX6_rests_102 ?_
                refine lv_aload_n hx hb dX6_rests_103 rfl (lv_at hl 2 rfl) ?_
                refine kget hC.1 hK (kP_app.mp hP).1 0 rfl rfl in_6 7 (by decide) (gw_in m_251 rfl) rfl dX6_rests_104 ?_
                refine lv_iload hx hb dX6_rests_107 (lv_at hl 6 rfl) ?_
                refine kald (v := p4 n) hC.1 hK (kP_app.mp hP).1 5 rfl (vp_in_nI hn (by omega)) (by rw [cl_nI (by omega)]) dX6_rests_109 ?_
                refine lv_icmp_le (tgt := 115) hx hb dX6_rests_110 (by decide) (fun c8 => ?_) (fun c8 => ?_)
                · skip
                  have c8' := Int32.not_lt.mpr c8
                  refine lv_iinc (v := nI (o + 1)) (lv' := [(7, .int (nI (o + 1))), (9, .int (nI (6 * (n / 6) + o))), (8, .int (nI (6 * o + n % 6))), (0, .ref (t 0)), (1, .ref (a 0)), (2, .int (p)), (3, .int (q)), (4, .int (nI n)), (5, .int (nI (n / 6))), (6, .int (nI (n % 6)))]) hx hb dX6_rests_115 hl (k := 9) rfl (inc_nI o) (by decide) rfl (fun ls hl => ?_)
                  refine lv_goto (tgt := 30) hx hb dX6_rests_118 (by decide) ?_
                  exact ih30 (o + 1) (by omega) (by omega) (lt_s hall (by unfold rsK; simp [ho, hall, c2, c2', c3, c6, c6', c7, c8, c8'])) _ (lv_sub hl [3, 4, 5, 6, 7, 8, 9, 0] rfl)
                · skip
                  have c8' := Int32.not_le.mp c8
                  refine lv_iconst (v := 0) hx hb dX6_rests_113 rfl ?_
                  exact ret_roz hx hb hr hlk rfl (by rw [rsB_f ho9 (by unfold rsK; simp [ho, hall, c2, c2', c3, c6, c6', c7, c8, c8'])]; rfl) dX6_rests_114
            · skip
              have c6' := Int32.not_le.mp c6
              refine lv_iconst (v := 0) hx hb dX6_rests_84 rfl ?_
              exact ret_roz hx hb hr hlk rfl (by rw [rsB_f ho9 (by unfold rsK; simp [ho, hall, c2, c2', c3, c6, c6'])]; rfl) dX6_rests_85
    exact cut30 _ 0 (Nat.lt_succ_self _) (by omega) (fun j h => absurd h (Nat.not_lt_zero j)) _ (lv_sub hl [3, 4, 5, 6, 7, 2, 1, 0] rfl)
  · skip
    have c1 := b2i_0 c1
    exact absurd (show wth (nI n) 0 35 = true from wth_nI (m := 35) (by omega : n ≤ 35)) (by rw [c1]; decide)
