theorem ckJ6_bitCount_0f7a4 : ckS yJ6_bitCount_0f7a4 cJ6_bitCount_0f7a4 1 (some .int) 1 := ⟨(gw_in m_703 rfl), (gw_in m_78 rfl), (gw_in m_702 rfl), by decide +kernel, by decide +kernel, by decide +kernel⟩
theorem ckX6_leastHard : ckV yX6_leastHard cX6_leastHard 6 (some .int) 3 := ⟨(gw_in m_718 rfl), (gw_in m_69 rfl), ⟨(gw_in m_716 rfl), (gw_in m_717 rfl)⟩, by decide +kernel, by decide +kernel, by decide +kernel⟩
theorem ckX6_bestMatch : ckV yX6_bestMatch cX6_bestMatch 8 (some .int) 2 := ⟨(gw_in m_731 rfl), (gw_in m_69 rfl), ⟨(gw_in m_729 rfl), (gw_in m_730 rfl)⟩, by decide +kernel, by decide +kernel, by decide +kernel⟩
theorem ckX6_strikeWithMisses : ckV yX6_strikeWithMisses cX6_strikeWithMisses 10 (some .long) 5 := ⟨(gw_in m_863 rfl), (gw_in m_69 rfl), ⟨(gw_in m_862 rfl), (gw_in m_28 rfl)⟩, by decide +kernel, by decide +kernel, by decide +kernel⟩
def bcF (x : Int32) : Int32 :=
  let a := x - ((x.toUInt32 >>> ((1 : Int32).toUInt32 &&& Int32.toUInt32 31)).toInt32 &&& 1431655765)
  let b := (a &&& 858993459) + ((a.toUInt32 >>> ((2 : Int32).toUInt32 &&& Int32.toUInt32 31)).toInt32 &&& 858993459)
  let c := (b + (b.toUInt32 >>> ((4 : Int32).toUInt32 &&& Int32.toUInt32 31)).toInt32) &&& 252645135
  let d := c + (c.toUInt32 >>> ((8 : Int32).toUInt32 &&& Int32.toUInt32 31)).toInt32
  let e := d + (d.toUInt32 >>> ((16 : Int32).toUInt32 &&& Int32.toUInt32 31)).toInt32
  e &&& 63
theorem Wf_fgt {b : Bool} {i j : Int32} : ∀ {m n : Nat} {r : Nat → Int32}, Wf r → Wf (fgt b i j m n r).2
  | 0, _, _, h => h
  | m + 1, n, r, h => by
    unfold fgt
    by_cases hc : fgc b i j n r = true
    · rw [if_pos hc]
      by_cases hb : yBrk (fgs b i j n r) i = true ∨ yBrk (fgs b i j n r) j = true
      · rw [if_pos hb]; exact Wf_fgs h hc
      · rw [if_neg hb]; exact Wf_fgt (Wf_fgs h hc)
    · rw [if_neg hc]; exact h
/-- as hard as h; whether i is left then -/
def mkh (r : Nat → Int32) (i : Int32) (h : Nat) : Nat → Int32 := if yNut r i = true then upd r (21 + cl i) (nI h) else r
theorem Wf_mkh {r : Nat → Int32} (hw : Wf r) {i : Int32} {h : Nat} (hh : h < 10) : Wf (mkh r i h) := by
  unfold mkh
  by_cases hi : yNut r i = true
  · rw [if_pos hi]; exact Wf_hd hw (yNut_cl hw hi) (by unfold bd; rw [nI_ti (by omega)]; omega)
  · rw [if_neg hi]; exact hw
def lhB (r : Nat → Int32) (i j : Int32) (h : Nat) : Bool := decide (¬ (fgt true i j 60 0 (mkh r i h)).1 = -1) && decide (yLeft (fgt true i j 60 0 (mkh r i h)).2 i j = i)
def bmF (r : Nat → Int32) (p : Int32) : Nat → Int32 × Int32
  | 0 => (-1, -1)
  | n + 1 => if yWof r (nI (n / 6)) p = true then (if yCan r (nI (n / 6)) (nI (n % 6)) = true then (if yLeft (fgt true (nI (n / 6)) (nI (n % 6)) 60 0 r).2 (nI (n / 6)) (nI (n % 6)) = nI (n / 6) then (if (bmF r p n).2 < yFact (fgt true (nI (n / 6)) (nI (n % 6)) 60 0 r).2 (nI (n / 6)) 5 then (10 * nI (n / 6) + nI (n % 6), yFact (fgt true (nI (n / 6)) (nI (n % 6)) 60 0 r).2 (nI (n / 6)) 5) else bmF r p n) else bmF r p n) else bmF r p n) else bmF r p n
def pasF (r : Nat → Int32) : Nat → Int32 := upd r 0 (if r 0 + 1 < 9999 then r 0 + 1 else 9999)
theorem Wf_pasF {r : Nat → Int32} (h : Wf r) : Wf (pasF r) := by unfold pasF; rw [yNext_eq h.num]; exact Wf_0 h (yNext_bd h)
/-- strikes by the bits of hh, the others missed: how much that weighs, what comes of it -/
def swF (r : Nat → Int32) (i j d hh : Int32) : Nat → Int64 × (Nat → Int32)
  | 0 => (1, r)
  | n + 1 => if hasB hh (nI n) = true then ((swF r i j d hh n).1 * (10 - d).toInt64, if yCan (swF r i j d hh n).2 i j = true then stk (swF r i j d hh n).2 i j else pasF (swF r i j d hh n).2) else ((swF r i j d hh n).1 * d.toInt64, pasF (swF r i j d hh n).2)
theorem Wf_swF {r : Nat → Int32} {i j d hh : Int32} (h : Wf r) : ∀ n, Wf (swF r i j d hh n).2
  | 0 => h
  | n + 1 => by
    have ih := Wf_swF (i := i) (j := j) (d := d) (hh := hh) h n
    unfold swF
    by_cases hb : hasB hh (nI n) = true
    · rw [if_pos hb]
      show Wf (if _ then _ else _)
      by_cases hc : yCan (swF r i j d hh n).2 i j = true
      · rw [if_pos hc]; exact Wf_stk ih (yCan_nut hc).1 (yCan_nut hc).2
      · rw [if_neg hc]; exact Wf_pasF ih
    · rw [if_neg hb]; exact Wf_pasF ih
set_option maxHeartbeats 4000000 in
set_option maxRecDepth 100000 in
theorem kJ6_bitCount_0f7a4 (l : Launch) (x : Int32) : Met l yJ6_bitCount_0f7a4 (.code yJ6_bitCount_0f7a4 cJ6_bitCount_0f7a4 1 (some .int) :: gw) (rmN 0) (va_Pc [.int (x)] (fun _ => True)) (vp_Si (fun v => v = (bcF x))) 0 0 (fun _ => False) := by
  refine met_start (by decide) (Nat.le_of_ble_eq_true rfl) ?_
  intro pp ee ss mm bl mt cd hC hpre ls hl
  obtain ⟨⟨hx, hb, hml, hown, hts⟩, hr, hlk, hnm⟩ := id hC
  have hl : lv_has ls 1 [(0, .int (x))] := hl
  refine lv_iload_n hx hb dJ6_bitCount_0f7a4_0 rfl (lv_at hl 0 rfl) ?_
  refine lv_iload_n hx hb dJ6_bitCount_0f7a4_1 rfl (lv_at hl 0 rfl) ?_
  refine lv_iconst (v := 1) hx hb dJ6_bitCount_0f7a4_2 rfl ?_
  refine lv_iushr hx hb dJ6_bitCount_0f7a4_3 rfl ?_
  refine lv_ldcw (v := 1431655765) hx hb hown (hts _ (gw_in m_704 rfl)) dJ6_bitCount_0f7a4_4 ?_
  refine lv_iand hx hb dJ6_bitCount_0f7a4_7 ?_
  refine lv_isub hx hb dJ6_bitCount_0f7a4_8 ?_
  refine lv_istore_n (lv' := [(0, .int (x - (((x.toUInt32 >>> ((1 : Int32).toUInt32 &&& Int32.toUInt32 31)).toInt32) &&& 1431655765)))]) hx hb dJ6_bitCount_0f7a4_9 rfl hl (by decide) rfl (fun ls hl => ?_)
  refine lv_iload_n hx hb dJ6_bitCount_0f7a4_10 rfl (lv_at hl 0 rfl) ?_
  refine lv_ldcw (v := 858993459) hx hb hown (hts _ (gw_in m_705 rfl)) dJ6_bitCount_0f7a4_11 ?_
  refine lv_iand hx hb dJ6_bitCount_0f7a4_14 ?_
  refine lv_iload_n hx hb dJ6_bitCount_0f7a4_15 rfl (lv_at hl 0 rfl) ?_
  refine lv_iconst (v := 2) hx hb dJ6_bitCount_0f7a4_16 rfl ?_
  refine lv_iushr hx hb dJ6_bitCount_0f7a4_17 rfl ?_
  refine lv_ldcw (v := 858993459) hx hb hown (hts _ (gw_in m_705 rfl)) dJ6_bitCount_0f7a4_18 ?_
  refine lv_iand hx hb dJ6_bitCount_0f7a4_21 ?_
  refine lv_iadd hx hb dJ6_bitCount_0f7a4_22 ?_
  refine lv_istore_n (lv' := [(0, .int (((x - (((x.toUInt32 >>> ((1 : Int32).toUInt32 &&& Int32.toUInt32 31)).toInt32) &&& 1431655765)) &&& 858993459) + ((((x - (((x.toUInt32 >>> ((1 : Int32).toUInt32 &&& Int32.toUInt32 31)).toInt32) &&& 1431655765)).toUInt32 >>> ((2 : Int32).toUInt32 &&& Int32.toUInt32 31)).toInt32) &&& 858993459)))]) hx hb dJ6_bitCount_0f7a4_23 rfl hl (by decide) rfl (fun ls hl => ?_)
  refine lv_iload_n hx hb dJ6_bitCount_0f7a4_24 rfl (lv_at hl 0 rfl) ?_
  refine lv_iload_n hx hb dJ6_bitCount_0f7a4_25 rfl (lv_at hl 0 rfl) ?_
  refine lv_iconst (v := 4) hx hb dJ6_bitCount_0f7a4_26 rfl ?_
  refine lv_iushr hx hb dJ6_bitCount_0f7a4_27 rfl ?_
  refine lv_iadd hx hb dJ6_bitCount_0f7a4_28 ?_
  refine lv_ldcw (v := 252645135) hx hb hown (hts _ (gw_in m_706 rfl)) dJ6_bitCount_0f7a4_29 ?_
  refine lv_iand hx hb dJ6_bitCount_0f7a4_32 ?_
  refine lv_istore_n (lv' := [(0, .int (((((x - (((x.toUInt32 >>> ((1 : Int32).toUInt32 &&& Int32.toUInt32 31)).toInt32) &&& 1431655765)) &&& 858993459) + ((((x - (((x.toUInt32 >>> ((1 : Int32).toUInt32 &&& Int32.toUInt32 31)).toInt32) &&& 1431655765)).toUInt32 >>> ((2 : Int32).toUInt32 &&& Int32.toUInt32 31)).toInt32) &&& 858993459)) + (((((x - (((x.toUInt32 >>> ((1 : Int32).toUInt32 &&& Int32.toUInt32 31)).toInt32) &&& 1431655765)) &&& 858993459) + ((((x - (((x.toUInt32 >>> ((1 : Int32).toUInt32 &&& Int32.toUInt32 31)).toInt32) &&& 1431655765)).toUInt32 >>> ((2 : Int32).toUInt32 &&& Int32.toUInt32 31)).toInt32) &&& 858993459)).toUInt32 >>> ((4 : Int32).toUInt32 &&& Int32.toUInt32 31)).toInt32)) &&& 252645135))]) hx hb dJ6_bitCount_0f7a4_33 rfl hl (by decide) rfl (fun ls hl => ?_)
  refine lv_iload_n hx hb dJ6_bitCount_0f7a4_34 rfl (lv_at hl 0 rfl) ?_
  refine lv_iload_n hx hb dJ6_bitCount_0f7a4_35 rfl (lv_at hl 0 rfl) ?_
  refine lv_bipush (v := 8) hx hb dJ6_bitCount_0f7a4_36 rfl ?_
  refine lv_iushr hx hb dJ6_bitCount_0f7a4_38 rfl ?_
  refine lv_iadd hx hb dJ6_bitCount_0f7a4_39 ?_
  refine lv_istore_n (lv' := [(0, .int ((((((x - (((x.toUInt32 >>> ((1 : Int32).toUInt32 &&& Int32.toUInt32 31)).toInt32) &&& 1431655765)) &&& 858993459) + ((((x - (((x.toUInt32 >>> ((1 : Int32).toUInt32 &&& Int32.toUInt32 31)).toInt32) &&& 1431655765)).toUInt32 >>> ((2 : Int32).toUInt32 &&& Int32.toUInt32 31)).toInt32) &&& 858993459)) + (((((x - (((x.toUInt32 >>> ((1 : Int32).toUInt32 &&& Int32.toUInt32 31)).toInt32) &&& 1431655765)) &&& 858993459) + ((((x - (((x.toUInt32 >>> ((1 : Int32).toUInt32 &&& Int32.toUInt32 31)).toInt32) &&& 1431655765)).toUInt32 >>> ((2 : Int32).toUInt32 &&& Int32.toUInt32 31)).toInt32) &&& 858993459)).toUInt32 >>> ((4 : Int32).toUInt32 &&& Int32.toUInt32 31)).toInt32)) &&& 252645135) + (((((((x - (((x.toUInt32 >>> ((1 : Int32).toUInt32 &&& Int32.toUInt32 31)).toInt32) &&& 1431655765)) &&& 858993459) + ((((x - (((x.toUInt32 >>> ((1 : Int32).toUInt32 &&& Int32.toUInt32 31)).toInt32) &&& 1431655765)).toUInt32 >>> ((2 : Int32).toUInt32 &&& Int32.toUInt32 31)).toInt32) &&& 858993459)) + (((((x - (((x.toUInt32 >>> ((1 : Int32).toUInt32 &&& Int32.toUInt32 31)).toInt32) &&& 1431655765)) &&& 858993459) + ((((x - (((x.toUInt32 >>> ((1 : Int32).toUInt32 &&& Int32.toUInt32 31)).toInt32) &&& 1431655765)).toUInt32 >>> ((2 : Int32).toUInt32 &&& Int32.toUInt32 31)).toInt32) &&& 858993459)).toUInt32 >>> ((4 : Int32).toUInt32 &&& Int32.toUInt32 31)).toInt32)) &&& 252645135).toUInt32 >>> ((8 : Int32).toUInt32 &&& Int32.toUInt32 31)).toInt32)))]) hx hb dJ6_bitCount_0f7a4_40 rfl hl (by decide) rfl (fun ls hl => ?_)
  refine lv_iload_n hx hb dJ6_bitCount_0f7a4_41 rfl (lv_at hl 0 rfl) ?_
  refine lv_iload_n hx hb dJ6_bitCount_0f7a4_42 rfl (lv_at hl 0 rfl) ?_
  refine lv_bipush (v := 16) hx hb dJ6_bitCount_0f7a4_43 rfl ?_
  refine lv_iushr hx hb dJ6_bitCount_0f7a4_45 rfl ?_
  refine lv_iadd hx hb dJ6_bitCount_0f7a4_46 ?_
  refine lv_istore_n (lv' := [(0, .int (((((((x - (((x.toUInt32 >>> ((1 : Int32).toUInt32 &&& Int32.toUInt32 31)).toInt32) &&& 1431655765)) &&& 858993459) + ((((x - (((x.toUInt32 >>> ((1 : Int32).toUInt32 &&& Int32.toUInt32 31)).toInt32) &&& 1431655765)).toUInt32 >>> ((2 : Int32).toUInt32 &&& Int32.toUInt32 31)).toInt32) &&& 858993459)) + (((((x - (((x.toUInt32 >>> ((1 : Int32).toUInt32 &&& Int32.toUInt32 31)).toInt32) &&& 1431655765)) &&& 858993459) + ((((x - (((x.toUInt32 >>> ((1 : Int32).toUInt32 &&& Int32.toUInt32 31)).toInt32) &&& 1431655765)).toUInt32 >>> ((2 : Int32).toUInt32 &&& Int32.toUInt32 31)).toInt32) &&& 858993459)).toUInt32 >>> ((4 : Int32).toUInt32 &&& Int32.toUInt32 31)).toInt32)) &&& 252645135) + (((((((x - (((x.toUInt32 >>> ((1 : Int32).toUInt32 &&& Int32.toUInt32 31)).toInt32) &&& 1431655765)) &&& 858993459) + ((((x - (((x.toUInt32 >>> ((1 : Int32).toUInt32 &&& Int32.toUInt32 31)).toInt32) &&& 1431655765)).toUInt32 >>> ((2 : Int32).toUInt32 &&& Int32.toUInt32 31)).toInt32) &&& 858993459)) + (((((x - (((x.toUInt32 >>> ((1 : Int32).toUInt32 &&& Int32.toUInt32 31)).toInt32) &&& 1431655765)) &&& 858993459) + ((((x - (((x.toUInt32 >>> ((1 : Int32).toUInt32 &&& Int32.toUInt32 31)).toInt32) &&& 1431655765)).toUInt32 >>> ((2 : Int32).toUInt32 &&& Int32.toUInt32 31)).toInt32) &&& 858993459)).toUInt32 >>> ((4 : Int32).toUInt32 &&& Int32.toUInt32 31)).toInt32)) &&& 252645135).toUInt32 >>> ((8 : Int32).toUInt32 &&& Int32.toUInt32 31)).toInt32)) + ((((((((x - (((x.toUInt32 >>> ((1 : Int32).toUInt32 &&& Int32.toUInt32 31)).toInt32) &&& 1431655765)) &&& 858993459) + ((((x - (((x.toUInt32 >>> ((1 : Int32).toUInt32 &&& Int32.toUInt32 31)).toInt32) &&& 1431655765)).toUInt32 >>> ((2 : Int32).toUInt32 &&& Int32.toUInt32 31)).toInt32) &&& 858993459)) + (((((x - (((x.toUInt32 >>> ((1 : Int32).toUInt32 &&& Int32.toUInt32 31)).toInt32) &&& 1431655765)) &&& 858993459) + ((((x - (((x.toUInt32 >>> ((1 : Int32).toUInt32 &&& Int32.toUInt32 31)).toInt32) &&& 1431655765)).toUInt32 >>> ((2 : Int32).toUInt32 &&& Int32.toUInt32 31)).toInt32) &&& 858993459)).toUInt32 >>> ((4 : Int32).toUInt32 &&& Int32.toUInt32 31)).toInt32)) &&& 252645135) + (((((((x - (((x.toUInt32 >>> ((1 : Int32).toUInt32 &&& Int32.toUInt32 31)).toInt32) &&& 1431655765)) &&& 858993459) + ((((x - (((x.toUInt32 >>> ((1 : Int32).toUInt32 &&& Int32.toUInt32 31)).toInt32) &&& 1431655765)).toUInt32 >>> ((2 : Int32).toUInt32 &&& Int32.toUInt32 31)).toInt32) &&& 858993459)) + (((((x - (((x.toUInt32 >>> ((1 : Int32).toUInt32 &&& Int32.toUInt32 31)).toInt32) &&& 1431655765)) &&& 858993459) + ((((x - (((x.toUInt32 >>> ((1 : Int32).toUInt32 &&& Int32.toUInt32 31)).toInt32) &&& 1431655765)).toUInt32 >>> ((2 : Int32).toUInt32 &&& Int32.toUInt32 31)).toInt32) &&& 858993459)).toUInt32 >>> ((4 : Int32).toUInt32 &&& Int32.toUInt32 31)).toInt32)) &&& 252645135).toUInt32 >>> ((8 : Int32).toUInt32 &&& Int32.toUInt32 31)).toInt32)).toUInt32 >>> ((16 : Int32).toUInt32 &&& Int32.toUInt32 31)).toInt32)))]) hx hb dJ6_bitCount_0f7a4_47 rfl hl (by decide) rfl (fun ls hl => ?_)
  refine lv_iload_n hx hb dJ6_bitCount_0f7a4_48 rfl (lv_at hl 0 rfl) ?_
  refine lv_bipush (v := 63) hx hb dJ6_bitCount_0f7a4_49 rfl ?_
  refine lv_iand hx hb dJ6_bitCount_0f7a4_51 ?_
  exact ret_roi hx hb hr hlk (by rfl) dJ6_bitCount_0f7a4_52
set_option maxHeartbeats 4000000 in
set_option maxRecDepth 100000 in
theorem kX6_leastHard (l : Launch) (g : gG) (t c : Nat → Nat) (sg : Nat → Nat) (bs bc : Int32) (p1 p2 p3 p4 p5 rg : Nat → Int32) (a : Nat → Nat) (r : Nat → Int32) (i j : Int32) (hw : Wf r) : Met l yX6_leastHard (.code yX6_leastHard cX6_leastHard 6 (some .int) :: gw) (rmN 5) (va_Pc [.ref (t 0), .ref (a 0), .int (i), .int (j)] (rwPre g (tW g t (c 0) sg bs bc p1 p2 p3 p4 p5 ++ (yW g c rg ++ (yW g a r ++ []))))) (rxQi g (tW g t (c 0) sg bs bc p1 p2 p3 p4 p5 ++ (yW g c rg ++ (yW g a r ++ []))) (fun u : (Nat → Int32) => tW g t (c 0) sg bs bc p1 p2 p3 p4 p5 ++ (yW g c u ++ (yW g a r ++ []))) (fstN (lhB r i j) 10)) 0 0 (dm (tW g t (c 0) sg bs bc p1 p2 p3 p4 p5 ++ (yW g c rg ++ (yW g a r ++ [])))) := by
  refine met_start (by decide) (Nat.le_of_ble_eq_true rfl) ?_
  intro pp ee ss mm bl mt cd hC hpre ls hl
  obtain ⟨⟨hx, hb, hml, hown, hts⟩, hr, hlk, hnm⟩ := id hC
  have hl : lv_has ls 6 [(0, .ref (t 0)), (1, .ref (a 0)), (2, .int (i)), (3, .int (j))] := hl
  obtain ⟨hP, hK, hD⟩ := hpre
  have hS : va_S (dm (tW g t (c 0) sg bs bc p1 p2 p3 p4 p5 ++ (yW g c rg ++ (yW g a r ++ [])))) ss.heap ss.heap [] := va_S.rf
  have hD := vD_self hD
  refine lv_iconst (v := 0) hx hb dX6_leastHard_0 rfl ?_
  refine lv_istore (lv' := [(4, .int (0)), (0, .ref (t 0)), (1, .ref (a 0)), (2, .int (i)), (3, .int (j))]) hx hb dX6_leastHard_1 hl (by decide) rfl (fun ls hl => ?_)
  have cut3 : ∀ kk : Nat, ∀ (n : Nat) (gx : Nat → Int32), 11 - n < kk → (hn : n ≤ 10) → (hno : ∀ k, k < n → lhB r i j k = false) → ∀ (H : Heap) (locs : List Loc), kP g (tW g t (c 0) sg bs bc p1 p2 p3 p4 p5 ++ (yW g c gx ++ (yW g a r ++ []))) H → va_D (dm (tW g t (c 0) sg bs bc p1 p2 p3 p4 p5 ++ (yW g c rg ++ (yW g a r ++ [])))) (tW g t (c 0) sg bs bc p1 p2 p3 p4 p5 ++ (yW g c gx ++ (yW g a r ++ []))) → va_S (dm (tW g t (c 0) sg bs bc p1 p2 p3 p4 p5 ++ (yW g c rg ++ (yW g a r ++ [])))) ss.heap H locs → ∀ (ls : Array Slot), lv_has ls 6 [(0, .ref (t 0)), (1, .ref (a 0)), (2, .int (i)), (3, .int (j)), (4, .int (nI n))] → W pp l ee (rmN 5) ss mm ([.ref (t 0), .ref (a 0), .int (i), .int (j)] : List Value).toArray bl mt cd H locs 0 0 (MQ bl (rxQi g (tW g t (c 0) sg bs bc p1 p2 p3 p4 p5 ++ (yW g c rg ++ (yW g a r ++ []))) (fun u : (Nat → Int32) => tW g t (c 0) sg bs bc p1 p2 p3 p4 p5 ++ (yW g c u ++ (yW g a r ++ []))) (fstN (lhB r i j) 10)) ([.ref (t 0), .ref (a 0), .int (i), .int (j)] : List Value).toArray ss 0 0 (dm (tW g t (c 0) sg bs bc p1 p2 p3 p4 p5 ++ (yW g c rg ++ (yW g a r ++ []))))) (F0 mm 3 ls []) := by
    intro kk
    induction kk with
    | zero => intro n gx hmu; exact absurd hmu (Nat.not_lt_zero _)
    | succ kk ih3 =>
      intro n gx hmu hn hno H locs hP hD hS ls hl
      refine lv_iload hx hb dX6_leastHard_3 (lv_at hl 4 rfl) ?_
      refine lv_bipush (v := 10) hx hb dX6_leastHard_5 rfl ?_
      refine lv_icmp_ge (tgt := 68) hx hb dX6_leastHard_7 (by decide) (fun c1 => ?_) (fun c1 => ?_)
      · skip
        have c1' := Int32.not_lt.mpr c1
        have hn9 : n = 10 := by have := lp_ge (by omega) c1; rw [show (10 : Int32).toInt = 10 from rfl] at this; omega
        refine lv_iconst (v := -1) hx hb dX6_leastHard_68 rfl ?_
        exact ret_rxi (S := (Nat → Int32)) gx hx hb hr hlk (by subst hn9; exact (fst_none hno).symm) (hP) hS dX6_leastHard_69
      · skip
        have c1' := Int32.not_le.mp c1
        have hn9 : n < 10 := by have := lp_lt (by omega) c1; rw [show (10 : Int32).toInt = 10 from rfl] at this; omega
        refine lv_aload_n hx hb dX6_leastHard_10 rfl (lv_at hl 0 rfl) ?_
        refine kget hC.1 hK (kP_app.mp hP).1 0 rfl rfl in_6 0 (by decide) (gw_in m_241 rfl) rfl dX6_leastHard_11 ?_
        refine lv_aload_n hx hb dX6_leastHard_14 rfl (lv_at hl 1 rfl) ?_
        have hP : kP g (yW g c gx ++ (yW g a r ++ (tW g t (c 0) sg bs bc p1 p2 p3 p4 p5 ++ []))) _ := kP_perm ((pm_swap _ _ _).trans (pmA _ (pm_swap _ _ _))) hP
        have hD : va_D _ (yW g c gx ++ (yW g a r ++ (tW g t (c 0) sg bs bc p1 p2 p3 p4 p5 ++ []))) := vD_perm ((pm_swap _ _ _).trans (pmA _ (pm_swap _ _ _))) hD
        refine rw_v (run_V (As := [.ref (a 0)]) (rest := []) hC.1 ckX7_copyOf (kX7_copyOf l g c a gx r) (gw_in m_647 rfl) (fb_rw _ _ _) (va_recv hK.1 (kP_app.mp hP).1 (q0 := 0) rfl rfl) (fun U hU hW => ⟨by rw [hU]; exact (kP_app.mpr ⟨(kP_app.mp hP).1, (kP_app.mpr ⟨(kP_app.mp (kP_app.mp hP).2).1, kP_nil⟩)⟩), kK_warm hW hK, vD_sub (sbA _ (sbA _ (sb0 _))) hD⟩) ⟨rfl, rfl, Nat.le_of_ble_eq_true rfl, Nat.le_of_ble_eq_true rfl⟩ rfl hl.1 rfl (Nat.le_of_ble_eq_true rfl) dX6_leastHard_15 ⟨Nat.le_of_ble_eq_true rfl, Nat.le_of_ble_eq_true rfl⟩) (adr_app yW_adr (adr_app rfl rfl)) (asc2 _ _ _) (ww' := yW g c r ++ (yW g a r ++ (tW g t (c 0) sg bs bc p1 p2 p3 p4 p5 ++ []))) (asc2 _ _ _) hP hD hS (fun H locs hP hD hS => ?_)
        refine lv_aload_n hx hb dX6_leastHard_18 rfl (lv_at hl 0 rfl) ?_
        refine kget hC.1 hK (kP_app.mp (kP_app.mp (kP_app.mp hP).2).2).1 0 rfl rfl in_6 0 (by decide) (gw_in m_241 rfl) rfl dX6_leastHard_19 ?_
        refine lv_iload_n hx hb dX6_leastHard_22 rfl (lv_at hl 2 rfl) ?_
        refine lv_iload hx hb dX6_leastHard_23 (lv_at hl 4 rfl) ?_
        refine rw_v (run_V (As := [.int (i), .int (nI n)]) (rest := []) hC.1 ckX7_makeHard (kX7_makeHard l g c r i (nI n) hw.n6) (gw_in m_719 rfl) (fb_rw _ _ _) (va_recv hK.1 (kP_app.mp hP).1 (q0 := 0) rfl rfl) (fun U hU hW => ⟨by rw [hU]; exact (kP_app.mpr ⟨(kP_app.mp hP).1, kP_nil⟩), kK_warm hW hK, vD_sub (sbA _ (sb0 _)) hD⟩) ⟨rfl, rfl, Nat.le_of_ble_eq_true rfl, Nat.le_of_ble_eq_true rfl⟩ rfl hl.1 rfl (Nat.le_of_ble_eq_true rfl) dX6_leastHard_25 ⟨Nat.le_of_ble_eq_true rfl, Nat.le_of_ble_eq_true rfl⟩) (adr_app yW_adr rfl) (asc1 _ _) (ww' := yW g c (if yNut r i = true then upd r (21 + cl i) (nI n) else r) ++ (yW g a r ++ (tW g t (c 0) sg bs bc p1 p2 p3 p4 p5 ++ []))) (asc1 _ _) hP hD hS (fun H locs hP hD hS => ?_)
        rw [show (if yNut r i = true then upd r (21 + cl i) (nI n) else r) = (mkh r i n) from rfl] at hP hD
        refine lv_aload_n hx hb dX6_leastHard_28 rfl (lv_at hl 0 rfl) ?_
        refine kget hC.1 hK (kP_app.mp (kP_app.mp (kP_app.mp hP).2).2).1 0 rfl rfl in_6 0 (by decide) (gw_in m_241 rfl) rfl dX6_leastHard_29 ?_
        refine lv_iload_n hx hb dX6_leastHard_32 rfl (lv_at hl 2 rfl) ?_
        refine lv_iload_n hx hb dX6_leastHard_33 rfl (lv_at hl 3 rfl) ?_
        refine lv_iconst (v := 1) hx hb dX6_leastHard_34 rfl ?_
        refine rw_i (run_S (As := [.ref (c 0), .int (i), .int (j), .int (1)]) (rest := []) hC.1 ckX6_fight (kX6_fight l g c (mkh r i n) i j true (Wf_mkh hw (by omega))) (gw_in m_648 rfl) (fb_rw _ _ _) (fun U hU hW => ⟨by rw [hU]; exact (kP_app.mpr ⟨(kP_app.mp hP).1, kP_nil⟩), kK_warm hW hK, vD_sub (sbA _ (sb0 _)) hD⟩) ⟨rfl, rfl, Nat.le_of_ble_eq_true rfl, Nat.le_of_ble_eq_true rfl⟩ rfl hl.1 rfl (Nat.le_of_ble_eq_true rfl) dX6_leastHard_35 ⟨Nat.le_of_ble_eq_true rfl, Nat.le_of_ble_eq_true rfl⟩) (adr_app yW_adr rfl) (asc1 _ _) (ww' := yW g c (fgt true i j 60 0 (mkh r i n)).2 ++ (yW g a r ++ (tW g t (c 0) sg bs bc p1 p2 p3 p4 p5 ++ []))) (asc1 _ _) hP hD hS (fun H locs hP hD hS => ?_)
        refine lv_istore (lv' := [(5, .int ((fgt true i j 60 0 (mkh r i n)).1)), (0, .ref (t 0)), (1, .ref (a 0)), (2, .int (i)), (3, .int (j)), (4, .int (nI n))]) hx hb dX6_leastHard_38 hl (by decide) rfl (fun ls hl => ?_)
        refine lv_iload hx hb dX6_leastHard_40 (lv_at hl 0 rfl) ?_
        refine lv_iconst (v := -1) hx hb dX6_leastHard_42 rfl ?_
        refine lv_icmp_eq (tgt := 62) hx hb dX6_leastHard_43 (by decide) (fun c2 => ?_) (fun c2 => ?_)
        · skip
          refine lv_iinc (v := nI (n + 1)) (lv' := [(4, .int (nI (n + 1))), (5, .int ((fgt true i j 60 0 (mkh r i n)).1)), (0, .ref (t 0)), (1, .ref (a 0)), (2, .int (i)), (3, .int (j))]) hx hb dX6_leastHard_62 hl (k := 5) rfl (inc_nI n) (by decide) rfl (fun ls hl => ?_)
          refine lv_goto (tgt := 3) hx hb dX6_leastHard_65 (by decide) ?_
          have hP : kP g (tW g t (c 0) sg bs bc p1 p2 p3 p4 p5 ++ (yW g c (fgt true i j 60 0 (mkh r i n)).2 ++ (yW g a r ++ []))) _ := kP_perm ((pmA _ (pm_swap _ _ _)).trans (pm_swap _ _ _)) hP
          have hD : va_D _ (tW g t (c 0) sg bs bc p1 p2 p3 p4 p5 ++ (yW g c (fgt true i j 60 0 (mkh r i n)).2 ++ (yW g a r ++ []))) := vD_perm ((pmA _ (pm_swap _ _ _)).trans (pm_swap _ _ _)) hD
          exact ih3 (n + 1) (fgt true i j 60 0 (mkh r i n)).2 (by omega) (by omega) (lt_s hno (by unfold lhB; simp [c1', c2])) _ _ hP hD hS _ (lv_sub hl [2, 3, 4, 5, 0] rfl)
        · skip
          refine lv_aload_n hx hb dX6_leastHard_46 rfl (lv_at hl 1 rfl) ?_
          refine kget hC.1 hK (kP_app.mp (kP_app.mp (kP_app.mp hP).2).2).1 0 rfl rfl in_6 0 (by decide) (gw_in m_241 rfl) rfl dX6_leastHard_47 ?_
          refine lv_iload_n hx hb dX6_leastHard_50 rfl (lv_at hl 3 rfl) ?_
          refine lv_iload_n hx hb dX6_leastHard_51 rfl (lv_at hl 4 rfl) ?_
          refine ro_i (run_V (As := [.int (i), .int (j)]) (rest := []) hC.1 ckX7_leftOf (kX7_leftOf l g c (fgt true i j 60 0 (mkh r i n)).2 i j (Wf_fgt (Wf_mkh hw (by omega))).n6) (gw_in m_723 rfl) (fb_ro _ _ _) (va_recv hK.1 (kP_app.mp hP).1 (q0 := 0) rfl rfl) (fun U hU hW => ⟨by rw [hU]; exact (kP_app.mp hP).1, kK_warm hW hK⟩) ⟨rfl, rfl, Nat.le_of_ble_eq_true rfl, Nat.le_of_ble_eq_true rfl⟩ rfl hl.1 rfl (Nat.le_of_ble_eq_true rfl) dX6_leastHard_52 ⟨Nat.le_of_ble_eq_true rfl, Nat.le_of_ble_eq_true rfl⟩) ?_
          refine lv_iload_n hx hb dX6_leastHard_55 rfl (lv_at hl 3 rfl) ?_
          refine lv_icmp_ne (tgt := 62) hx hb dX6_leastHard_56 (by decide) (fun c3 => ?_) (fun c3 => ?_)
          · skip
            refine lv_iinc (v := nI (n + 1)) (lv' := [(4, .int (nI (n + 1))), (5, .int ((fgt true i j 60 0 (mkh r i n)).1)), (0, .ref (t 0)), (1, .ref (a 0)), (2, .int (i)), (3, .int (j))]) hx hb dX6_leastHard_62 hl (k := 5) rfl (inc_nI n) (by decide) rfl (fun ls hl => ?_)
            refine lv_goto (tgt := 3) hx hb dX6_leastHard_65 (by decide) ?_
            have hP : kP g (tW g t (c 0) sg bs bc p1 p2 p3 p4 p5 ++ (yW g c (fgt true i j 60 0 (mkh r i n)).2 ++ (yW g a r ++ []))) _ := kP_perm ((pmA _ (pm_swap _ _ _)).trans (pm_swap _ _ _)) hP
            have hD : va_D _ (tW g t (c 0) sg bs bc p1 p2 p3 p4 p5 ++ (yW g c (fgt true i j 60 0 (mkh r i n)).2 ++ (yW g a r ++ []))) := vD_perm ((pmA _ (pm_swap _ _ _)).trans (pm_swap _ _ _)) hD
            exact ih3 (n + 1) (fgt true i j 60 0 (mkh r i n)).2 (by omega) (by omega) (lt_s hno (by unfold lhB; simp [c2, c3])) _ _ hP hD hS _ (lv_sub hl [2, 3, 4, 5, 0] rfl)
          · skip
            refine lv_iload hx hb dX6_leastHard_59 (lv_at hl 5 rfl) ?_
            have hP : kP g (tW g t (c 0) sg bs bc p1 p2 p3 p4 p5 ++ (yW g c (fgt true i j 60 0 (mkh r i n)).2 ++ (yW g a r ++ []))) _ := kP_perm ((pmA _ (pm_swap _ _ _)).trans (pm_swap _ _ _)) hP
            have hD : va_D _ (tW g t (c 0) sg bs bc p1 p2 p3 p4 p5 ++ (yW g c (fgt true i j 60 0 (mkh r i n)).2 ++ (yW g a r ++ []))) := vD_perm ((pmA _ (pm_swap _ _ _)).trans (pm_swap _ _ _)) hD
            exact ret_rxi (S := (Nat → Int32)) (fgt true i j 60 0 (mkh r i n)).2 hx hb hr hlk (by exact (fst_hit (by unfold lhB; simp [hn, hno, c1, c1', c2, c3]) hn9 hno).symm) (hP) hS dX6_leastHard_61
  exact cut3 _ 0 rg (Nat.lt_succ_self _) (by omega) (fun j h => absurd h (Nat.not_lt_zero j)) _ _ hP hD hS _ (lv_sub hl [1, 2, 3, 4, 0] rfl)
set_option maxHeartbeats 4000000 in
set_option maxRecDepth 100000 in
theorem kX6_bestMatch (l : Launch) (g : gG) (t c : Nat → Nat) (sg : Nat → Nat) (bs bc : Int32) (p1 p2 p3 p4 p5 rg : Nat → Int32) (a : Nat → Nat) (r : Nat → Int32) (p : Int32) (hw : Wf r) : Met l yX6_bestMatch (.code yX6_bestMatch cX6_bestMatch 8 (some .int) :: gw) (rmN 6) (va_Pc [.ref (t 0), .ref (a 0), .int (p)] (rwPre g (tW g t (c 0) sg bs bc p1 p2 p3 p4 p5 ++ (yW g c rg ++ (yW g a r ++ []))))) (rxQi g (tW g t (c 0) sg bs bc p1 p2 p3 p4 p5 ++ (yW g c rg ++ (yW g a r ++ []))) (fun u : (Nat → Int32) => tW g t (c 0) sg (bmF r p 36).2 bc p1 p2 p3 p4 p5 ++ (yW g c u ++ (yW g a r ++ []))) (bmF r p 36).1) 0 0 (dm (tW g t (c 0) sg bs bc p1 p2 p3 p4 p5 ++ (yW g c rg ++ (yW g a r ++ [])))) := by
  refine met_start (by decide) (Nat.le_of_ble_eq_true rfl) ?_
  intro pp ee ss mm bl mt cd hC hpre ls hl
  obtain ⟨⟨hx, hb, hml, hown, hts⟩, hr, hlk, hnm⟩ := id hC
  have hl : lv_has ls 8 [(0, .ref (t 0)), (1, .ref (a 0)), (2, .int (p))] := hl
  obtain ⟨hP, hK, hD⟩ := hpre
  have hS : va_S (dm (tW g t (c 0) sg bs bc p1 p2 p3 p4 p5 ++ (yW g c rg ++ (yW g a r ++ [])))) ss.heap ss.heap [] := va_S.rf
  have hD := vD_self hD
  refine lv_iconst (v := -1) hx hb dX6_bestMatch_0 rfl ?_
  refine lv_istore_n (lv' := [(3, .int (-1)), (0, .ref (t 0)), (1, .ref (a 0)), (2, .int (p))]) hx hb dX6_bestMatch_1 rfl hl (by decide) rfl (fun ls hl => ?_)
  refine lv_aload_n hx hb dX6_bestMatch_2 rfl (lv_at hl 1 rfl) ?_
  refine lv_iconst (v := -1) hx hb dX6_bestMatch_3 rfl ?_
  refine kput (B' := tW g t (c 0) sg (-1) bc p1 p2 p3 p4 p5) hC.1 hK hP hD hS 0 rfl rfl in_6 tyX6 tyX6_ok nmX6 1 (by decide) (gw_in m_243 rfl) rfl (ty := .int) (by decide +kernel) rfl rfl (Nat.le_of_ble_eq_true rfl) (fun _ h => h) tW_adr dX6_bestMatch_4 (fun H locs hP hD hS => ?_)
  refine lv_iconst (v := 0) hx hb dX6_bestMatch_7 rfl ?_
  refine lv_istore (lv' := [(4, .int (0)), (3, .int (-1)), (0, .ref (t 0)), (1, .ref (a 0)), (2, .int (p))]) hx hb dX6_bestMatch_8 hl (by decide) rfl (fun ls hl => ?_)
  have cut10 : ∀ kk : Nat, ∀ (n : Nat) (gx : Nat → Int32), 37 - n < kk → (hn : n ≤ 36) → ∀ (H : Heap) (locs : List Loc), kP g (tW g t (c 0) sg (bmF r p n).2 bc p1 p2 p3 p4 p5 ++ (yW g c gx ++ (yW g a r ++ []))) H → va_D (dm (tW g t (c 0) sg bs bc p1 p2 p3 p4 p5 ++ (yW g c rg ++ (yW g a r ++ [])))) (tW g t (c 0) sg (bmF r p n).2 bc p1 p2 p3 p4 p5 ++ (yW g c gx ++ (yW g a r ++ []))) → va_S (dm (tW g t (c 0) sg bs bc p1 p2 p3 p4 p5 ++ (yW g c rg ++ (yW g a r ++ [])))) ss.heap H locs → ∀ (ls : Array Slot), lv_has ls 8 [(0, .ref (t 0)), (1, .ref (a 0)), (2, .int (p)), (3, .int ((bmF r p n).1)), (4, .int (nI n))] → W pp l ee (rmN 6) ss mm ([.ref (t 0), .ref (a 0), .int (p)] : List Value).toArray bl mt cd H locs 0 0 (MQ bl (rxQi g (tW g t (c 0) sg bs bc p1 p2 p3 p4 p5 ++ (yW g c rg ++ (yW g a r ++ []))) (fun u : (Nat → Int32) => tW g t (c 0) sg (bmF r p 36).2 bc p1 p2 p3 p4 p5 ++ (yW g c u ++ (yW g a r ++ []))) (bmF r p 36).1) ([.ref (t 0), .ref (a 0), .int (p)] : List Value).toArray ss 0 0 (dm (tW g t (c 0) sg bs bc p1 p2 p3 p4 p5 ++ (yW g c rg ++ (yW g a r ++ []))))) (F0 mm 10 ls []) := by
    intro kk
    induction kk with
    | zero => intro n gx hmu; exact absurd hmu (Nat.not_lt_zero _)
    | succ kk ih10 =>
      intro n gx hmu hn H locs hP hD hS ls hl
      refine lv_iload hx hb dX6_bestMatch_10 (lv_at hl 4 rfl) ?_
      refine lv_bipush (v := 36) hx hb dX6_bestMatch_12 rfl ?_
      refine lv_icmp_ge (tgt := 127) hx hb dX6_bestMatch_14 (by decide) (fun c1 => ?_) (fun c1 => ?_)
      · skip
        have c1' := Int32.not_lt.mpr c1
        have hn9 : n = 36 := by have := lp_ge (by omega) c1; rw [show (36 : Int32).toInt = 36 from rfl] at this; omega
        subst hn9
        have hl : lv_has ls 8 [(0, .ref (t 0)), (1, .ref (a 0)), (2, .int (p)), (3, .int ((bmF r p 36).1))] := lv_sub hl [0, 1, 2, 3] rfl
        refine lv_iload_n hx hb dX6_bestMatch_127 rfl (lv_at hl 3 rfl) ?_
        exact ret_rxi (S := (Nat → Int32)) gx hx hb hr hlk (by rfl) (hP) hS dX6_bestMatch_128
      · skip
        have c1' := Int32.not_le.mp c1
        have hn9 : n < 36 := by have := lp_lt (by omega) c1; rw [show (36 : Int32).toInt = 36 from rfl] at this; omega
        refine lv_iload hx hb dX6_bestMatch_17 (lv_at hl 4 rfl) ?_
        refine lv_bipush (v := 6) hx hb dX6_bestMatch_19 rfl ?_
        refine lv_idiv hx hb dX6_bestMatch_21 (by decide) ?_
        refine top_i (x := (nI n) / 6) (y := nI (n / 6)) (pk_div (d := 6) (by omega) (by omega) (by omega)) ?_
        refine lv_istore (lv' := [(5, .int (nI (n / 6))), (0, .ref (t 0)), (1, .ref (a 0)), (2, .int (p)), (3, .int ((bmF r p n).1)), (4, .int (nI n))]) hx hb dX6_bestMatch_22 hl (by decide) rfl (fun ls hl => ?_)
        refine lv_iload hx hb dX6_bestMatch_24 (lv_at hl 5 rfl) ?_
        refine lv_bipush (v := 6) hx hb dX6_bestMatch_26 rfl ?_
        refine lv_irem hx hb dX6_bestMatch_28 (by decide) ?_
        refine top_i (x := (nI n) - (nI n) / 6 * 6) (y := nI (n % 6)) (pk_rem (d := 6) (by omega) (by omega) (by omega)) ?_
        refine lv_istore (lv' := [(6, .int (nI (n % 6))), (5, .int (nI (n / 6))), (0, .ref (t 0)), (1, .ref (a 0)), (2, .int (p)), (3, .int ((bmF r p n).1)), (4, .int (nI n))]) hx hb dX6_bestMatch_29 hl (by decide) rfl (fun ls hl => ?_)
        refine lv_aload_n hx hb dX6_bestMatch_31 rfl (lv_at hl 3 rfl) ?_
        refine lv_iload hx hb dX6_bestMatch_32 (lv_at hl 1 rfl) ?_
        refine lv_iload_n hx hb dX6_bestMatch_34 rfl (lv_at hl 4 rfl) ?_
        refine ro_i (run_V (As := [.int (nI (n / 6)), .int (p)]) (rest := []) hC.1 ckX7_isWholeOf (kX7_isWholeOf l g a r (nI (n / 6)) p hw.n6) (gw_in m_732 rfl) (fb_ro _ _ _) (va_recv hK.1 (kP_app.mp (kP_app.mp (kP_app.mp hP).2).2).1 (q0 := 0) rfl rfl) (fun U hU hW => ⟨by rw [hU]; exact (kP_app.mp (kP_app.mp (kP_app.mp hP).2).2).1, kK_warm hW hK⟩) ⟨rfl, rfl, Nat.le_of_ble_eq_true rfl, Nat.le_of_ble_eq_true rfl⟩ rfl hl.1 rfl (Nat.le_of_ble_eq_true rfl) dX6_bestMatch_35 ⟨Nat.le_of_ble_eq_true rfl, Nat.le_of_ble_eq_true rfl⟩) ?_
        refine lv_if_eq (tgt := 121) hx hb dX6_bestMatch_38 (by decide) (fun c2 => ?_) (fun c2 => ?_)
        · skip
          have c2 := b2i_0 c2
          refine lv_iinc (v := nI (n + 1)) (lv' := [(4, .int (nI (n + 1))), (6, .int (nI (n % 6))), (5, .int (nI (n / 6))), (0, .ref (t 0)), (1, .ref (a 0)), (2, .int (p)), (3, .int ((bmF r p n).1))]) hx hb dX6_bestMatch_121 hl (k := 6) rfl (inc_nI n) (by decide) rfl (fun ls hl => ?_)
          refine lv_goto (tgt := 10) hx hb dX6_bestMatch_124 (by decide) ?_
          have e9 : bmF r p (n + 1) = bmF r p n := by simp only [bmF]; simp [c1, c1', c2]
          have hl : lv_has ls 8 [(4, .int (nI (n + 1))), (6, .int (nI (n % 6))), (5, .int (nI (n / 6))), (0, .ref (t 0)), (1, .ref (a 0)), (2, .int (p)), (3, .int ((bmF r p (n + 1)).1))] := by rw [e9]; exact hl
          have hP : kP g (tW g t (c 0) sg (bmF r p (n + 1)).2 bc p1 p2 p3 p4 p5 ++ (yW g c gx ++ (yW g a r ++ []))) _ := kP_eq (by rw [e9]) hP
          have hD : va_D _ (tW g t (c 0) sg (bmF r p (n + 1)).2 bc p1 p2 p3 p4 p5 ++ (yW g c gx ++ (yW g a r ++ []))) := vD_eq (by rw [e9]) hD
          exact ih10 (n + 1) gx (by omega) (by omega) _ _ hP hD hS _ (lv_sub hl [3, 4, 5, 6, 0] rfl)
        · skip
          have c2 := b2i_1 c2
          refine lv_aload_n hx hb dX6_bestMatch_41 rfl (lv_at hl 3 rfl) ?_
          refine lv_iload hx hb dX6_bestMatch_42 (lv_at hl 1 rfl) ?_
          refine lv_iload hx hb dX6_bestMatch_44 (lv_at hl 0 rfl) ?_
          refine ro_i (run_V (As := [.int (nI (n / 6)), .int (nI (n % 6))]) (rest := []) hC.1 ckX7_canStrike (kX7_canStrike l g a r (nI (n / 6)) (nI (n % 6)) hw.n6) (gw_in m_733 rfl) (fb_ro _ _ _) (va_recv hK.1 (kP_app.mp (kP_app.mp (kP_app.mp hP).2).2).1 (q0 := 0) rfl rfl) (fun U hU hW => ⟨by rw [hU]; exact (kP_app.mp (kP_app.mp (kP_app.mp hP).2).2).1, kK_warm hW hK⟩) ⟨rfl, rfl, Nat.le_of_ble_eq_true rfl, Nat.le_of_ble_eq_true rfl⟩ rfl hl.1 rfl (Nat.le_of_ble_eq_true rfl) dX6_bestMatch_46 ⟨Nat.le_of_ble_eq_true rfl, Nat.le_of_ble_eq_true rfl⟩) ?_
          refine lv_if_ne (tgt := 55) hx hb dX6_bestMatch_49 (by decide) (fun c3 => ?_) (fun c3 => ?_)
          · skip
            have c3 := b2i_1 c3
            refine lv_aload_n hx hb dX6_bestMatch_55 rfl (lv_at hl 2 rfl) ?_
            refine lv_aload_n hx hb dX6_bestMatch_56 rfl (lv_at hl 3 rfl) ?_
            refine lv_iload hx hb dX6_bestMatch_57 (lv_at hl 1 rfl) ?_
            refine lv_iload hx hb dX6_bestMatch_59 (lv_at hl 0 rfl) ?_
            refine lv_iconst (v := 1) hx hb dX6_bestMatch_61 rfl ?_
            refine rw_i (run_V (As := [.ref (a 0), .int (nI (n / 6)), .int (nI (n % 6)), .int (1)]) (rest := []) hC.1 ckX6_fightOn (kX6_fightOn l g t c sg (bmF r p n).2 bc p1 p2 p3 p4 p5 gx a r (nI (n / 6)) (nI (n % 6)) true hw) (gw_in m_734 rfl) (fb_rw _ _ _) (va_recv hK.1 (kP_app.mp hP).1 (q0 := 0) rfl rfl) (fun U hU hW => ⟨by rw [hU]; exact (kP_app.mpr ⟨(kP_app.mp hP).1, (kP_app.mpr ⟨(kP_app.mp (kP_app.mp hP).2).1, (kP_app.mpr ⟨(kP_app.mp (kP_app.mp (kP_app.mp hP).2).2).1, kP_nil⟩)⟩)⟩), kK_warm hW hK, vD_sub (sbA _ (sbA _ (sbA _ (sb0 _)))) hD⟩) ⟨rfl, rfl, Nat.le_of_ble_eq_true rfl, Nat.le_of_ble_eq_true rfl⟩ rfl hl.1 rfl (Nat.le_of_ble_eq_true rfl) dX6_bestMatch_62 ⟨Nat.le_of_ble_eq_true rfl, Nat.le_of_ble_eq_true rfl⟩) (adr_app rfl (adr_app yW_adr (adr_app rfl rfl))) (asc3 _ _ _ _) (ww' := tW g t (c 0) sg (bmF r p n).2 bc p1 p2 p3 p4 p5 ++ (yW g c (fgt true (nI (n / 6)) (nI (n % 6)) 60 0 r).2 ++ (yW g a r ++ []))) (asc3 _ _ _ _) hP hD hS (fun H locs hP hD hS => ?_)
            refine lv_pop hx hb dX6_bestMatch_65 rfl ?_
            refine lv_aload_n hx hb dX6_bestMatch_66 rfl (lv_at hl 2 rfl) ?_
            refine kget hC.1 hK (kP_app.mp hP).1 0 rfl rfl in_6 0 (by decide) (gw_in m_241 rfl) rfl dX6_bestMatch_67 ?_
            refine lv_iload hx hb dX6_bestMatch_70 (lv_at hl 1 rfl) ?_
            refine lv_iconst (v := 5) hx hb dX6_bestMatch_72 rfl ?_
            refine ro_i (run_V (As := [.int (nI (n / 6)), .int (5)]) (rest := []) hC.1 ckX7_fact (kX7_fact l g c (fgt true (nI (n / 6)) (nI (n % 6)) 60 0 r).2 (nI (n / 6)) 5 (Wf_fgt hw)) (gw_in m_691 rfl) (fb_ro _ _ _) (va_recv hK.1 (kP_app.mp (kP_app.mp hP).2).1 (q0 := 0) rfl rfl) (fun U hU hW => ⟨by rw [hU]; exact (kP_app.mp (kP_app.mp hP).2).1, kK_warm hW hK⟩) ⟨rfl, rfl, Nat.le_of_ble_eq_true rfl, Nat.le_of_ble_eq_true rfl⟩ rfl hl.1 rfl (Nat.le_of_ble_eq_true rfl) dX6_bestMatch_73 ⟨Nat.le_of_ble_eq_true rfl, Nat.le_of_ble_eq_true rfl⟩) ?_
            refine lv_istore (lv' := [(7, .int (yFact (fgt true (nI (n / 6)) (nI (n % 6)) 60 0 r).2 (nI (n / 6)) 5)), (6, .int (nI (n % 6))), (5, .int (nI (n / 6))), (0, .ref (t 0)), (1, .ref (a 0)), (2, .int (p)), (3, .int ((bmF r p n).1)), (4, .int (nI n))]) hx hb dX6_bestMatch_76 hl (by decide) rfl (fun ls hl => ?_)
            refine lv_aload_n hx hb dX6_bestMatch_78 rfl (lv_at hl 3 rfl) ?_
            refine kget hC.1 hK (kP_app.mp hP).1 0 rfl rfl in_6 0 (by decide) (gw_in m_241 rfl) rfl dX6_bestMatch_79 ?_
            refine lv_iload hx hb dX6_bestMatch_82 (lv_at hl 2 rfl) ?_
            refine lv_iload hx hb dX6_bestMatch_84 (lv_at hl 1 rfl) ?_
            refine ro_i (run_V (As := [.int (nI (n / 6)), .int (nI (n % 6))]) (rest := []) hC.1 ckX7_leftOf (kX7_leftOf l g c (fgt true (nI (n / 6)) (nI (n % 6)) 60 0 r).2 (nI (n / 6)) (nI (n % 6)) (Wf_fgt hw).n6) (gw_in m_723 rfl) (fb_ro _ _ _) (va_recv hK.1 (kP_app.mp (kP_app.mp hP).2).1 (q0 := 0) rfl rfl) (fun U hU hW => ⟨by rw [hU]; exact (kP_app.mp (kP_app.mp hP).2).1, kK_warm hW hK⟩) ⟨rfl, rfl, Nat.le_of_ble_eq_true rfl, Nat.le_of_ble_eq_true rfl⟩ rfl hl.1 rfl (Nat.le_of_ble_eq_true rfl) dX6_bestMatch_86 ⟨Nat.le_of_ble_eq_true rfl, Nat.le_of_ble_eq_true rfl⟩) ?_
            refine lv_iload hx hb dX6_bestMatch_89 (lv_at hl 2 rfl) ?_
            refine lv_icmp_ne (tgt := 121) hx hb dX6_bestMatch_91 (by decide) (fun c4 => ?_) (fun c4 => ?_)
            · skip
              refine lv_iinc (v := nI (n + 1)) (lv' := [(4, .int (nI (n + 1))), (7, .int (yFact (fgt true (nI (n / 6)) (nI (n % 6)) 60 0 r).2 (nI (n / 6)) 5)), (6, .int (nI (n % 6))), (5, .int (nI (n / 6))), (0, .ref (t 0)), (1, .ref (a 0)), (2, .int (p)), (3, .int ((bmF r p n).1))]) hx hb dX6_bestMatch_121 hl (k := 7) rfl (inc_nI n) (by decide) rfl (fun ls hl => ?_)
              refine lv_goto (tgt := 10) hx hb dX6_bestMatch_124 (by decide) ?_
              have e9 : bmF r p (n + 1) = bmF r p n := by simp only [bmF]; simp [c1, c1', c2, c3, c4]
              have hl : lv_has ls 8 [(4, .int (nI (n + 1))), (7, .int (yFact (fgt true (nI (n / 6)) (nI (n % 6)) 60 0 r).2 (nI (n / 6)) 5)), (6, .int (nI (n % 6))), (5, .int (nI (n / 6))), (0, .ref (t 0)), (1, .ref (a 0)), (2, .int (p)), (3, .int ((bmF r p (n + 1)).1))] := by rw [e9]; exact hl
              have hP : kP g (tW g t (c 0) sg (bmF r p (n + 1)).2 bc p1 p2 p3 p4 p5 ++ (yW g c (fgt true (nI (n / 6)) (nI (n % 6)) 60 0 r).2 ++ (yW g a r ++ []))) _ := kP_eq (by rw [e9]) hP
              have hD : va_D _ (tW g t (c 0) sg (bmF r p (n + 1)).2 bc p1 p2 p3 p4 p5 ++ (yW g c (fgt true (nI (n / 6)) (nI (n % 6)) 60 0 r).2 ++ (yW g a r ++ []))) := vD_eq (by rw [e9]) hD
              exact ih10 (n + 1) (fgt true (nI (n / 6)) (nI (n % 6)) 60 0 r).2 (by omega) (by omega) _ _ hP hD hS _ (lv_sub hl [4, 5, 6, 7, 0] rfl)
            · skip
              refine lv_iload hx hb dX6_bestMatch_94 (lv_at hl 0 rfl) ?_
              refine lv_aload_n hx hb dX6_bestMatch_96 rfl (lv_at hl 3 rfl) ?_
              refine kget hC.1 hK (kP_app.mp hP).1 0 rfl rfl in_6 1 (by decide) (gw_in m_243 rfl) rfl dX6_bestMatch_97 ?_
              refine lv_icmp_gt (tgt := 106) hx hb dX6_bestMatch_100 (by decide) (fun c5 => ?_) (fun c5 => ?_)
              · skip
                have c5' := Int32.not_le.mpr c5
                refine lv_bipush (v := 10) hx hb dX6_bestMatch_106 rfl ?_
                refine lv_iload hx hb dX6_bestMatch_108 (lv_at hl 2 rfl) ?_
                refine lv_imul hx hb dX6_bestMatch_110 ?_
                refine lv_iload hx hb dX6_bestMatch_111 (lv_at hl 1 rfl) ?_
                refine lv_iadd hx hb dX6_bestMatch_113 ?_
                refine lv_istore_n (lv' := [(3, .int ((10 * (nI (n / 6))) + (nI (n % 6)))), (7, .int (yFact (fgt true (nI (n / 6)) (nI (n % 6)) 60 0 r).2 (nI (n / 6)) 5)), (6, .int (nI (n % 6))), (5, .int (nI (n / 6))), (0, .ref (t 0)), (1, .ref (a 0)), (2, .int (p)), (4, .int (nI n))]) hx hb dX6_bestMatch_114 rfl hl (by decide) rfl (fun ls hl => ?_)
                refine lv_aload_n hx hb dX6_bestMatch_115 rfl (lv_at hl 4 rfl) ?_
                refine lv_iload hx hb dX6_bestMatch_116 (lv_at hl 1 rfl) ?_
                refine kput (B' := tW g t (c 0) sg (yFact (fgt true (nI (n / 6)) (nI (n % 6)) 60 0 r).2 (nI (n / 6)) 5) bc p1 p2 p3 p4 p5) hC.1 hK hP hD hS 0 rfl rfl in_6 tyX6 tyX6_ok nmX6 1 (by decide) (gw_in m_243 rfl) rfl (ty := .int) (by decide +kernel) rfl rfl (Nat.le_of_ble_eq_true rfl) (fun _ h => h) tW_adr dX6_bestMatch_118 (fun H locs hP hD hS => ?_)
                refine lv_iinc (v := nI (n + 1)) (lv' := [(4, .int (nI (n + 1))), (3, .int ((10 * (nI (n / 6))) + (nI (n % 6)))), (7, .int (yFact (fgt true (nI (n / 6)) (nI (n % 6)) 60 0 r).2 (nI (n / 6)) 5)), (6, .int (nI (n % 6))), (5, .int (nI (n / 6))), (0, .ref (t 0)), (1, .ref (a 0)), (2, .int (p))]) hx hb dX6_bestMatch_121 hl (k := 7) rfl (inc_nI n) (by decide) rfl (fun ls hl => ?_)
                refine lv_goto (tgt := 10) hx hb dX6_bestMatch_124 (by decide) ?_
                have e9 : bmF r p (n + 1) = ((10 * (nI (n / 6))) + (nI (n % 6)), yFact (fgt true (nI (n / 6)) (nI (n % 6)) 60 0 r).2 (nI (n / 6)) 5) := by simp only [bmF]; simp [c1, c1', c2, c3, c4, c5, c5']
                have hl : lv_has ls 8 [(4, .int (nI (n + 1))), (3, .int ((bmF r p (n + 1)).1)), (7, .int (yFact (fgt true (nI (n / 6)) (nI (n % 6)) 60 0 r).2 (nI (n / 6)) 5)), (6, .int (nI (n % 6))), (5, .int (nI (n / 6))), (0, .ref (t 0)), (1, .ref (a 0)), (2, .int (p))] := by rw [e9]; exact hl
                have hP : kP g (tW g t (c 0) sg (bmF r p (n + 1)).2 bc p1 p2 p3 p4 p5 ++ (yW g c (fgt true (nI (n / 6)) (nI (n % 6)) 60 0 r).2 ++ (yW g a r ++ []))) _ := kP_eq (by rw [e9]) hP
                have hD : va_D _ (tW g t (c 0) sg (bmF r p (n + 1)).2 bc p1 p2 p3 p4 p5 ++ (yW g c (fgt true (nI (n / 6)) (nI (n % 6)) 60 0 r).2 ++ (yW g a r ++ []))) := vD_eq (by rw [e9]) hD
                exact ih10 (n + 1) (fgt true (nI (n / 6)) (nI (n % 6)) 60 0 r).2 (by omega) (by omega) _ _ hP hD hS _ (lv_sub hl [5, 6, 7, 1, 0] rfl)
              · skip
                have c5' := Int32.not_lt.mp c5
                refine lv_goto (tgt := 121) hx hb dX6_bestMatch_103 (by decide) ?_
                refine lv_iinc (v := nI (n + 1)) (lv' := [(4, .int (nI (n + 1))), (7, .int (yFact (fgt true (nI (n / 6)) (nI (n % 6)) 60 0 r).2 (nI (n / 6)) 5)), (6, .int (nI (n % 6))), (5, .int (nI (n / 6))), (0, .ref (t 0)), (1, .ref (a 0)), (2, .int (p)), (3, .int ((bmF r p n).1))]) hx hb dX6_bestMatch_121 hl (k := 7) rfl (inc_nI n) (by decide) rfl (fun ls hl => ?_)
                refine lv_goto (tgt := 10) hx hb dX6_bestMatch_124 (by decide) ?_
                have e9 : bmF r p (n + 1) = bmF r p n := by simp only [bmF]; simp [c1, c1', c2, c3, c4, c5, c5']
                have hl : lv_has ls 8 [(4, .int (nI (n + 1))), (7, .int (yFact (fgt true (nI (n / 6)) (nI (n % 6)) 60 0 r).2 (nI (n / 6)) 5)), (6, .int (nI (n % 6))), (5, .int (nI (n / 6))), (0, .ref (t 0)), (1, .ref (a 0)), (2, .int (p)), (3, .int ((bmF r p (n + 1)).1))] := by rw [e9]; exact hl
                have hP : kP g (tW g t (c 0) sg (bmF r p (n + 1)).2 bc p1 p2 p3 p4 p5 ++ (yW g c (fgt true (nI (n / 6)) (nI (n % 6)) 60 0 r).2 ++ (yW g a r ++ []))) _ := kP_eq (by rw [e9]) hP
                have hD : va_D _ (tW g t (c 0) sg (bmF r p (n + 1)).2 bc p1 p2 p3 p4 p5 ++ (yW g c (fgt true (nI (n / 6)) (nI (n % 6)) 60 0 r).2 ++ (yW g a r ++ []))) := vD_eq (by rw [e9]) hD
                exact ih10 (n + 1) (fgt true (nI (n / 6)) (nI (n % 6)) 60 0 r).2 (by omega) (by omega) _ _ hP hD hS _ (lv_sub hl [4, 5, 6, 7, 0] rfl)
          · skip
            have c3 := b2i_0 c3
            refine lv_goto (tgt := 121) hx hb dX6_bestMatch_52 (by decide) ?_
            refine lv_iinc (v := nI (n + 1)) (lv' := [(4, .int (nI (n + 1))), (6, .int (nI (n % 6))), (5, .int (nI (n / 6))), (0, .ref (t 0)), (1, .ref (a 0)), (2, .int (p)), (3, .int ((bmF r p n).1))]) hx hb dX6_bestMatch_121 hl (k := 6) rfl (inc_nI n) (by decide) rfl (fun ls hl => ?_)
            refine lv_goto (tgt := 10) hx hb dX6_bestMatch_124 (by decide) ?_
            have e9 : bmF r p (n + 1) = bmF r p n := by simp only [bmF]; simp [c1, c1', c2, c3]
            have hl : lv_has ls 8 [(4, .int (nI (n + 1))), (6, .int (nI (n % 6))), (5, .int (nI (n / 6))), (0, .ref (t 0)), (1, .ref (a 0)), (2, .int (p)), (3, .int ((bmF r p (n + 1)).1))] := by rw [e9]; exact hl
            have hP : kP g (tW g t (c 0) sg (bmF r p (n + 1)).2 bc p1 p2 p3 p4 p5 ++ (yW g c gx ++ (yW g a r ++ []))) _ := kP_eq (by rw [e9]) hP
            have hD : va_D _ (tW g t (c 0) sg (bmF r p (n + 1)).2 bc p1 p2 p3 p4 p5 ++ (yW g c gx ++ (yW g a r ++ []))) := vD_eq (by rw [e9]) hD
            exact ih10 (n + 1) gx (by omega) (by omega) _ _ hP hD hS _ (lv_sub hl [3, 4, 5, 6, 0] rfl)
  exact cut10 _ 0 rg (Nat.lt_succ_self _) (by omega) _ _ hP hD hS _ (lv_sub hl [2, 3, 4, 1, 0] rfl)
set_option maxHeartbeats 4000000 in
set_option maxRecDepth 100000 in
theorem kX6_strikeWithMisses (l : Launch) (g : gG) (t c : Nat → Nat) (sg : Nat → Nat) (bs bc : Int32) (p1 p2 p3 p4 p5 rg : Nat → Int32) (i j : Int32) (N : Nat) (d hh : Int32) (hw : Wf rg) (hN : N ≤ 6) : Met l yX6_strikeWithMisses (.code yX6_strikeWithMisses cX6_strikeWithMisses 10 (some .long) :: gw) (rmN 4) (va_Pc [.ref (t 0), .int (i), .int (j), .int (nI N), .int (d), .int (hh)] (rwPre g (tW g t (c 0) sg bs bc p1 p2 p3 p4 p5 ++ (yW g c rg ++ [])))) (rwQl g (tW g t (c 0) sg bs bc p1 p2 p3 p4 p5 ++ (yW g c rg ++ [])) (tW g t (c 0) sg bs bc p1 p2 p3 p4 p5 ++ (yW g c (swF rg i j d hh N).2 ++ [])) (swF rg i j d hh N).1) 0 0 (dm (tW g t (c 0) sg bs bc p1 p2 p3 p4 p5 ++ (yW g c rg ++ []))) := by
  refine met_start (by decide) (Nat.le_of_ble_eq_true rfl) ?_
  intro pp ee ss mm bl mt cd hC hpre ls hl
  obtain ⟨⟨hx, hb, hml, hown, hts⟩, hr, hlk, hnm⟩ := id hC
  have hl : lv_has ls 10 [(0, .ref (t 0)), (1, .int (i)), (2, .int (j)), (3, .int (nI N)), (4, .int (d)), (5, .int (hh))] := hl
  obtain ⟨hP, hK, hD⟩ := hpre
  have hS : va_S (dm (tW g t (c 0) sg bs bc p1 p2 p3 p4 p5 ++ (yW g c rg ++ []))) ss.heap ss.heap [] := va_S.rf
  have hD := vD_self hD
  refine lv_lconst (v := 1) hx hb dX6_strikeWithMisses_0 rfl ?_
  refine lv_lstore (lv' := [(6, .long (1)), (0, .ref (t 0)), (1, .int (i)), (2, .int (j)), (3, .int (nI N)), (4, .int (d)), (5, .int (hh))]) hx hb dX6_strikeWithMisses_1 hl (by decide) rfl (fun ls hl => ?_)
  refine lv_iconst (v := 0) hx hb dX6_strikeWithMisses_3 rfl ?_
  refine lv_istore (lv' := [(8, .int (0)), (6, .long (1)), (0, .ref (t 0)), (1, .int (i)), (2, .int (j)), (3, .int (nI N)), (4, .int (d)), (5, .int (hh))]) hx hb dX6_strikeWithMisses_4 hl (by decide) rfl (fun ls hl => ?_)
  have cut6 : ∀ kk : Nat, ∀ (n : Nat), N + 1 - n < kk → (hn : n ≤ N) → ∀ (H : Heap) (locs : List Loc), kP g (tW g t (c 0) sg bs bc p1 p2 p3 p4 p5 ++ (yW g c (swF rg i j d hh n).2 ++ [])) H → va_D (dm (tW g t (c 0) sg bs bc p1 p2 p3 p4 p5 ++ (yW g c rg ++ []))) (tW g t (c 0) sg bs bc p1 p2 p3 p4 p5 ++ (yW g c (swF rg i j d hh n).2 ++ [])) → va_S (dm (tW g t (c 0) sg bs bc p1 p2 p3 p4 p5 ++ (yW g c rg ++ []))) ss.heap H locs → ∀ (ls : Array Slot), lv_has ls 10 [(0, .ref (t 0)), (1, .int (i)), (2, .int (j)), (3, .int (nI N)), (4, .int (d)), (5, .int (hh)), (6, .long ((swF rg i j d hh n).1)), (8, .int (nI n))] → W pp l ee (rmN 4) ss mm ([.ref (t 0), .int (i), .int (j), .int (nI N), .int (d), .int (hh)] : List Value).toArray bl mt cd H locs 0 0 (MQ bl (rwQl g (tW g t (c 0) sg bs bc p1 p2 p3 p4 p5 ++ (yW g c rg ++ [])) (tW g t (c 0) sg bs bc p1 p2 p3 p4 p5 ++ (yW g c (swF rg i j d hh N).2 ++ [])) (swF rg i j d hh N).1) ([.ref (t 0), .int (i), .int (j), .int (nI N), .int (d), .int (hh)] : List Value).toArray ss 0 0 (dm (tW g t (c 0) sg bs bc p1 p2 p3 p4 p5 ++ (yW g c rg ++ [])))) (F0 mm 6 ls []) := by
    intro kk
    induction kk with
    | zero => intro n hmu; exact absurd hmu (Nat.not_lt_zero _)
    | succ kk ih6 =>
      intro n hmu hn H locs hP hD hS ls hl
      have hwn := Wf_swF (i := i) (j := j) (d := d) (hh := hh) hw n
      refine lv_iload hx hb dX6_strikeWithMisses_6 (lv_at hl 7 rfl) ?_
      refine lv_iload_n hx hb dX6_strikeWithMisses_8 rfl (lv_at hl 3 rfl) ?_
      refine lv_icmp_ge (tgt := 74) hx hb dX6_strikeWithMisses_9 (by decide) (fun c1 => ?_) (fun c1 => ?_)
      · skip
        have c1' := Int32.not_lt.mpr c1
        have hn9 : n = N := by rw [nI_leI (by omega) (by omega)] at c1; omega
        subst hn9
        refine lv_lload hx hb dX6_strikeWithMisses_74 (lv_at hl 6 rfl) ?_
        exact ret_rwl hx hb hr hlk (by rfl) (hP) hS dX6_strikeWithMisses_76
      · skip
        have c1' := Int32.not_le.mp c1
        have hn9 : n < N := by rw [nI_leI (by omega) (by omega)] at c1; omega
        refine lv_iload hx hb dX6_strikeWithMisses_12 (lv_at hl 5 rfl) ?_
        refine lv_iload hx hb dX6_strikeWithMisses_14 (lv_at hl 7 rfl) ?_
        refine ro_i (run_SN (As := [.int (hh), .int (nI n)]) (rest := []) hC.1 ckX8_has (kX8_has l hh (nI n)) (hK.2.2 _ _ _ _ m_697) (fb_nil _) (fun _ _ _ => trivial) ⟨rfl, rfl, Nat.le_of_ble_eq_true rfl, Nat.le_of_ble_eq_true rfl⟩ rfl hl.1 rfl (Nat.le_of_ble_eq_true rfl) dX6_strikeWithMisses_16 ⟨Nat.le_of_ble_eq_true rfl, Nat.le_of_ble_eq_true rfl⟩) ?_
        refine lv_istore (lv' := [(9, .int (b2i (hasB hh (nI n)))), (0, .ref (t 0)), (1, .int (i)), (2, .int (j)), (3, .int (nI N)), (4, .int (d)), (5, .int (hh)), (6, .long ((swF rg i j d hh n).1)), (8, .int (nI n))]) hx hb dX6_strikeWithMisses_19 hl (by decide) rfl (fun ls hl => ?_)
        refine lv_lload hx hb dX6_strikeWithMisses_21 (lv_at hl 7 rfl) ?_
        refine lv_iload hx hb dX6_strikeWithMisses_23 (lv_at hl 0 rfl) ?_
        refine lv_if_eq (tgt := 37) hx hb dX6_strikeWithMisses_25 (by decide) (fun c2 => ?_) (fun c2 => ?_)
        · skip
          have c2 := b2i_0 c2
          refine lv_iload hx hb dX6_strikeWithMisses_37 (lv_at hl 5 rfl) ?_
          refine lv_i2l hx hb dX6_strikeWithMisses_39 rfl ?_
          refine lv_lmul hx hb dX6_strikeWithMisses_40 ?_
          refine lv_lstore (lv' := [(6, .long ((swF rg i j d hh n).1 * d.toInt64)), (9, .int (b2i (hasB hh (nI n)))), (0, .ref (t 0)), (1, .int (i)), (2, .int (j)), (3, .int (nI N)), (4, .int (d)), (5, .int (hh)), (8, .int (nI n))]) hx hb dX6_strikeWithMisses_41 hl (by decide) rfl (fun ls hl => ?_)
          refine lv_iload hx hb dX6_strikeWithMisses_43 (lv_at hl 1 rfl) ?_
          refine lv_if_eq (tgt := 60) hx hb dX6_strikeWithMisses_45 (by decide) (fun c3 => ?_) (fun c3 => ?_)
          · skip
            have c3 := b2i_0 c3
            refine lv_aload_n hx hb dX6_strikeWithMisses_60 rfl (lv_at hl 2 rfl) ?_
            refine kget hC.1 hK (kP_app.mp hP).1 0 rfl rfl in_6 0 (by decide) (gw_in m_241 rfl) rfl dX6_strikeWithMisses_61 ?_
            refine lv_iconst (v := 1) hx hb dX6_strikeWithMisses_64 rfl ?_
            have hP : kP g (yW g c (swF rg i j d hh n).2 ++ (tW g t (c 0) sg bs bc p1 p2 p3 p4 p5 ++ [])) _ := kP_perm (pm_swap _ _ _) hP
            have hD : va_D _ (yW g c (swF rg i j d hh n).2 ++ (tW g t (c 0) sg bs bc p1 p2 p3 p4 p5 ++ [])) := vD_perm (pm_swap _ _ _) hD
            refine rw_v (run_V (As := [.int (1)]) (rest := []) hC.1 ckX7_pass (kX7_pass l g c (swF rg i j d hh n).2 1) (gw_in m_864 rfl) (fb_rw _ _ _) (va_recv hK.1 (kP_app.mp hP).1 (q0 := 0) rfl rfl) (fun U hU hW => ⟨by rw [hU]; exact (kP_app.mpr ⟨(kP_app.mp hP).1, kP_nil⟩), kK_warm hW hK, vD_sub (sbA _ (sb0 _)) hD⟩) ⟨rfl, rfl, Nat.le_of_ble_eq_true rfl, Nat.le_of_ble_eq_true rfl⟩ rfl hl.1 rfl (Nat.le_of_ble_eq_true rfl) dX6_strikeWithMisses_65 ⟨Nat.le_of_ble_eq_true rfl, Nat.le_of_ble_eq_true rfl⟩) (adr_app yW_adr rfl) (asc1 _ _) (ww' := yW g c (upd (swF rg i j d hh n).2 0 (if (swF rg i j d hh n).2 0 + 1 < 9999 then (swF rg i j d hh n).2 0 + 1 else 9999)) ++ (tW g t (c 0) sg bs bc p1 p2 p3 p4 p5 ++ [])) (asc1 _ _) hP hD hS (fun H locs hP hD hS => ?_)
            refine lv_iinc (v := nI (n + 1)) (lv' := [(8, .int (nI (n + 1))), (6, .long ((swF rg i j d hh n).1 * d.toInt64)), (9, .int (b2i (hasB hh (nI n)))), (0, .ref (t 0)), (1, .int (i)), (2, .int (j)), (3, .int (nI N)), (4, .int (d)), (5, .int (hh))]) hx hb dX6_strikeWithMisses_68 hl (k := 8) rfl (inc_nI n) (by decide) rfl (fun ls hl => ?_)
            refine lv_goto (tgt := 6) hx hb dX6_strikeWithMisses_71 (by decide) ?_
            have e9 : swF rg i j d hh (n + 1) = ((swF rg i j d hh n).1 * d.toInt64, upd (swF rg i j d hh n).2 0 (if (swF rg i j d hh n).2 0 + 1 < 9999 then (swF rg i j d hh n).2 0 + 1 else 9999)) := by simp only [swF]; simp [pasF, hn, c1, c1', c2, c3]
            have hl : lv_has ls 10 [(8, .int (nI (n + 1))), (6, .long ((swF rg i j d hh (n + 1)).1)), (9, .int (b2i (hasB hh (nI n)))), (0, .ref (t 0)), (1, .int (i)), (2, .int (j)), (3, .int (nI N)), (4, .int (d)), (5, .int (hh))] := by rw [e9]; exact hl
            have hP : kP g (yW g c (swF rg i j d hh (n + 1)).2 ++ (tW g t (c 0) sg bs bc p1 p2 p3 p4 p5 ++ [])) _ := kP_eq (by rw [e9]) hP
            have hD : va_D _ (yW g c (swF rg i j d hh (n + 1)).2 ++ (tW g t (c 0) sg bs bc p1 p2 p3 p4 p5 ++ [])) := vD_eq (by rw [e9]) hD
            have hP : kP g (tW g t (c 0) sg bs bc p1 p2 p3 p4 p5 ++ (yW g c (swF rg i j d hh (n + 1)).2 ++ [])) _ := kP_perm (pm_swap _ _ _) hP
            have hD : va_D _ (tW g t (c 0) sg bs bc p1 p2 p3 p4 p5 ++ (yW g c (swF rg i j d hh (n + 1)).2 ++ [])) := vD_perm (pm_swap _ _ _) hD
            exact ih6 (n + 1) (by omega) (by omega) _ _ hP hD hS _ (lv_sub hl [3, 4, 5, 6, 7, 8, 1, 0] rfl)
          · skip
            have c3 := b2i_1 c3
            exact absurd c2 (by rw [c3]; decide)
        · skip
          have c2 := b2i_1 c2
          refine lv_bipush (v := 10) hx hb dX6_strikeWithMisses_28 rfl ?_
          refine lv_iload hx hb dX6_strikeWithMisses_30 (lv_at hl 5 rfl) ?_
          refine lv_isub hx hb dX6_strikeWithMisses_32 ?_
          refine lv_i2l hx hb dX6_strikeWithMisses_33 rfl ?_
          refine lv_goto (tgt := 40) hx hb dX6_strikeWithMisses_34 (by decide) ?_
          refine lv_lmul hx hb dX6_strikeWithMisses_40 ?_
          refine lv_lstore (lv' := [(6, .long ((swF rg i j d hh n).1 * ((10 - d).toInt64))), (9, .int (b2i (hasB hh (nI n)))), (0, .ref (t 0)), (1, .int (i)), (2, .int (j)), (3, .int (nI N)), (4, .int (d)), (5, .int (hh)), (8, .int (nI n))]) hx hb dX6_strikeWithMisses_41 hl (by decide) rfl (fun ls hl => ?_)
          refine lv_iload hx hb dX6_strikeWithMisses_43 (lv_at hl 1 rfl) ?_
          refine lv_if_eq (tgt := 60) hx hb dX6_strikeWithMisses_45 (by decide) (fun c4 => ?_) (fun c4 => ?_)
          · skip
            have c4 := b2i_0 c4
            exact absurd c2 (by rw [c4]; decide)
          · skip
            have c4 := b2i_1 c4
            refine lv_aload_n hx hb dX6_strikeWithMisses_48 rfl (lv_at hl 2 rfl) ?_
            refine kget hC.1 hK (kP_app.mp hP).1 0 rfl rfl in_6 0 (by decide) (gw_in m_241 rfl) rfl dX6_strikeWithMisses_49 ?_
            refine lv_iload_n hx hb dX6_strikeWithMisses_52 rfl (lv_at hl 3 rfl) ?_
            refine lv_iload_n hx hb dX6_strikeWithMisses_53 rfl (lv_at hl 4 rfl) ?_
            have hP : kP g (yW g c (swF rg i j d hh n).2 ++ (tW g t (c 0) sg bs bc p1 p2 p3 p4 p5 ++ [])) _ := kP_perm (pm_swap _ _ _) hP
            have hD : va_D _ (yW g c (swF rg i j d hh n).2 ++ (tW g t (c 0) sg bs bc p1 p2 p3 p4 p5 ++ [])) := vD_perm (pm_swap _ _ _) hD
            refine rw_i (run_V (As := [.int (i), .int (j)]) (rest := []) hC.1 ckX7_strike (kX7_strike l g c (swF rg i j d hh n).2 i j hwn) (gw_in m_651 rfl) (fb_rw _ _ _) (va_recv hK.1 (kP_app.mp hP).1 (q0 := 0) rfl rfl) (fun U hU hW => ⟨by rw [hU]; exact (kP_app.mpr ⟨(kP_app.mp hP).1, kP_nil⟩), kK_warm hW hK, vD_sub (sbA _ (sb0 _)) hD⟩) ⟨rfl, rfl, Nat.le_of_ble_eq_true rfl, Nat.le_of_ble_eq_true rfl⟩ rfl hl.1 rfl (Nat.le_of_ble_eq_true rfl) dX6_strikeWithMisses_54 ⟨Nat.le_of_ble_eq_true rfl, Nat.le_of_ble_eq_true rfl⟩) (adr_app yW_adr rfl) (asc1 _ _) (ww' := yW g c (if yCan (swF rg i j d hh n).2 i j = true then stk (swF rg i j d hh n).2 i j else (swF rg i j d hh n).2) ++ (tW g t (c 0) sg bs bc p1 p2 p3 p4 p5 ++ [])) (asc1 _ _) hP hD hS (fun H locs hP hD hS => ?_)
            refine lv_if_ne (tgt := 68) hx hb dX6_strikeWithMisses_57 (by decide) (fun c5 => ?_) (fun c5 => ?_)
            · skip
              have c5 := b2i_1 c5
              refine lv_iinc (v := nI (n + 1)) (lv' := [(8, .int (nI (n + 1))), (6, .long ((swF rg i j d hh n).1 * ((10 - d).toInt64))), (9, .int (b2i (hasB hh (nI n)))), (0, .ref (t 0)), (1, .int (i)), (2, .int (j)), (3, .int (nI N)), (4, .int (d)), (5, .int (hh))]) hx hb dX6_strikeWithMisses_68 hl (k := 8) rfl (inc_nI n) (by decide) rfl (fun ls hl => ?_)
              refine lv_goto (tgt := 6) hx hb dX6_strikeWithMisses_71 (by decide) ?_
              have e9 : swF rg i j d hh (n + 1) = ((swF rg i j d hh n).1 * ((10 - d).toInt64), if yCan (swF rg i j d hh n).2 i j = true then stk (swF rg i j d hh n).2 i j else (swF rg i j d hh n).2) := by simp only [swF]; simp [pasF, hn, c1, c1', c2, c4, c5]
              have hl : lv_has ls 10 [(8, .int (nI (n + 1))), (6, .long ((swF rg i j d hh (n + 1)).1)), (9, .int (b2i (hasB hh (nI n)))), (0, .ref (t 0)), (1, .int (i)), (2, .int (j)), (3, .int (nI N)), (4, .int (d)), (5, .int (hh))] := by rw [e9]; exact hl
              have hP : kP g (yW g c (swF rg i j d hh (n + 1)).2 ++ (tW g t (c 0) sg bs bc p1 p2 p3 p4 p5 ++ [])) _ := kP_eq (by rw [e9]) hP
              have hD : va_D _ (yW g c (swF rg i j d hh (n + 1)).2 ++ (tW g t (c 0) sg bs bc p1 p2 p3 p4 p5 ++ [])) := vD_eq (by rw [e9]) hD
              have hP : kP g (tW g t (c 0) sg bs bc p1 p2 p3 p4 p5 ++ (yW g c (swF rg i j d hh (n + 1)).2 ++ [])) _ := kP_perm (pm_swap _ _ _) hP
              have hD : va_D _ (tW g t (c 0) sg bs bc p1 p2 p3 p4 p5 ++ (yW g c (swF rg i j d hh (n + 1)).2 ++ [])) := vD_perm (pm_swap _ _ _) hD
              exact ih6 (n + 1) (by omega) (by omega) _ _ hP hD hS _ (lv_sub hl [3, 4, 5, 6, 7, 8, 1, 0] rfl)
            · skip
              have c5 := b2i_0 c5
              refine lv_aload_n hx hb dX6_strikeWithMisses_60 rfl (lv_at hl 2 rfl) ?_
              refine kget hC.1 hK (kP_app.mp (kP_app.mp hP).2).1 0 rfl rfl in_6 0 (by decide) (gw_in m_241 rfl) rfl dX6_strikeWithMisses_61 ?_
              refine lv_iconst (v := 1) hx hb dX6_strikeWithMisses_64 rfl ?_
              refine rw_v (run_V (As := [.int (1)]) (rest := []) hC.1 ckX7_pass (kX7_pass l g c (if yCan (swF rg i j d hh n).2 i j = true then stk (swF rg i j d hh n).2 i j else (swF rg i j d hh n).2) 1) (gw_in m_864 rfl) (fb_rw _ _ _) (va_recv hK.1 (kP_app.mp hP).1 (q0 := 0) rfl rfl) (fun U hU hW => ⟨by rw [hU]; exact (kP_app.mpr ⟨(kP_app.mp hP).1, kP_nil⟩), kK_warm hW hK, vD_sub (sbA _ (sb0 _)) hD⟩) ⟨rfl, rfl, Nat.le_of_ble_eq_true rfl, Nat.le_of_ble_eq_true rfl⟩ rfl hl.1 rfl (Nat.le_of_ble_eq_true rfl) dX6_strikeWithMisses_65 ⟨Nat.le_of_ble_eq_true rfl, Nat.le_of_ble_eq_true rfl⟩) (adr_app yW_adr rfl) (asc1 _ _) (ww' := yW g c (upd (if yCan (swF rg i j d hh n).2 i j = true then stk (swF rg i j d hh n).2 i j else (swF rg i j d hh n).2) 0 (if (if yCan (swF rg i j d hh n).2 i j = true then stk (swF rg i j d hh n).2 i j else (swF rg i j d hh n).2) 0 + 1 < 9999 then (if yCan (swF rg i j d hh n).2 i j = true then stk (swF rg i j d hh n).2 i j else (swF rg i j d hh n).2) 0 + 1 else 9999)) ++ (tW g t (c 0) sg bs bc p1 p2 p3 p4 p5 ++ [])) (asc1 _ _) hP hD hS (fun H locs hP hD hS => ?_)
              refine lv_iinc (v := nI (n + 1)) (lv' := [(8, .int (nI (n + 1))), (6, .long ((swF rg i j d hh n).1 * ((10 - d).toInt64))), (9, .int (b2i (hasB hh (nI n)))), (0, .ref (t 0)), (1, .int (i)), (2, .int (j)), (3, .int (nI N)), (4, .int (d)), (5, .int (hh))]) hx hb dX6_strikeWithMisses_68 hl (k := 8) rfl (inc_nI n) (by decide) rfl (fun ls hl => ?_)
              refine lv_goto (tgt := 6) hx hb dX6_strikeWithMisses_71 (by decide) ?_
              have e9 : swF rg i j d hh (n + 1) = ((swF rg i j d hh n).1 * ((10 - d).toInt64), upd (if yCan (swF rg i j d hh n).2 i j = true then stk (swF rg i j d hh n).2 i j else (swF rg i j d hh n).2) 0 (if (if yCan (swF rg i j d hh n).2 i j = true then stk (swF rg i j d hh n).2 i j else (swF rg i j d hh n).2) 0 + 1 < 9999 then (if yCan (swF rg i j d hh n).2 i j = true then stk (swF rg i j d hh n).2 i j else (swF rg i j d hh n).2) 0 + 1 else 9999)) := by simp only [swF]; simp [pasF, hn, c1, c1', c2, c4, c5]
              have hl : lv_has ls 10 [(8, .int (nI (n + 1))), (6, .long ((swF rg i j d hh (n + 1)).1)), (9, .int (b2i (hasB hh (nI n)))), (0, .ref (t 0)), (1, .int (i)), (2, .int (j)), (3, .int (nI N)), (4, .int (d)), (5, .int (hh))] := by rw [e9]; exact hl
              have hP : kP g (yW g c (swF rg i j d hh (n + 1)).2 ++ (tW g t (c 0) sg bs bc p1 p2 p3 p4 p5 ++ [])) _ := kP_eq (by rw [e9]) hP
              have hD : va_D _ (yW g c (swF rg i j d hh (n + 1)).2 ++ (tW g t (c 0) sg bs bc p1 p2 p3 p4 p5 ++ [])) := vD_eq (by rw [e9]) hD
              have hP : kP g (tW g t (c 0) sg bs bc p1 p2 p3 p4 p5 ++ (yW g c (swF rg i j d hh (n + 1)).2 ++ [])) _ := kP_perm (pm_swap _ _ _) hP
              have hD : va_D _ (tW g t (c 0) sg bs bc p1 p2 p3 p4 p5 ++ (yW g c (swF rg i j d hh (n + 1)).2 ++ [])) := vD_perm (pm_swap _ _ _) hD
              exact ih6 (n + 1) (by omega) (by omega) _ _ hP hD hS _ (lv_sub hl [3, 4, 5, 6, 7, 8, 1, 0] rfl)
  exact cut6 _ 0 (Nat.lt_succ_self _) (by omega) _ _ hP hD hS _ (lv_sub hl [2, 3, 4, 5, 6, 7, 1, 0] rfl)
