/-! ===== the loop ===== -/
theorem inc7 {n : Nat} : nI (7 * n) + 7 = nI (7 * (n + 1)) := (nI_add (7 * n) 7).trans (congrArg nI (by omega))
theorem lg7 {n L : Nat} (hL : L ≤ 3584) (hn : 7 * n ≤ L) : (Int32.ofNat L - 7 < nI (7 * n)) ↔ L < 7 * n + 7 := by
  have e := pk_sub_toInt (a := L) (b := 7) (by omega) (by omega)
  rw [Int32.lt_iff_toInt_lt, nI_ti (by omega)]
  show (nI L - nI 7).toInt < _ ↔ _
  rw [e]; omega
set_option maxHeartbeats 4000000 in
set_option maxRecDepth 100000 in
theorem lw_loop (l : Launch) (g : gG) {pp : Program} {ee : Env} {ss : State} {mm : MethodId} {bl : List Frame} {mt : Method} {cd : Code} {b L : Nat} {xs : Nat → Int32} (hC : CallFix pp mm cd cL_law 4 ss #[Value.ref b] gw "ConkerBoutsLaw" ∧ True) (hr : mt.sig.returnType = ret) (hlk : mt.locks = false) (hK : kK g ss) (q9 : sQ) (hZ : kS q9 (fun q9 => ss.heap.size ≤ q9) ss ss.heap) (hX : va_X b L xs ss ss.heap) (hbl : b < ss.heap.size) (hL : L ≤ 3584) {x a ay ap b1 b2 b3 e t c u : Nat → Nat} {sx : Nat → Nat → Nat} {im : Nat} {o : Nat → Nat} : ∀ (d n : Nat) (H : Heap) (locs : List Loc) (ls : Array Slot), 7 * n ≤ L → L < 7 * (n + d) + 7 → lwI g x a ay ap b1 b2 b3 e t c u sx im o (fun q9 => ss.heap.size ≤ q9) H → va_S (fun q9 => ss.heap.size ≤ q9) ss.heap H locs → lv_has ls 4 [(0, .ref b), (1, .ref (x 0)), (2, .ref (o 0)), (3, .int (nI (7 * n)))] → W pp l ee room_1 ss mm #[Value.ref b] bl mt cd H locs (109 + 18 * n) (2857 + 329 * n) (lw_Z bl #[Value.ref b] ss) (F0 mm 18 ls []) := by
  obtain ⟨hx, hb, hml, hown, hts⟩ := id hC.1
  have hbA : ¬ ss.heap.size ≤ b := by omega
  intro d
  induction d with
  | zero =>
    intro n H locs ls h7 h8 hI hS hl
    refine lv_iload_n hx hb dL_law_18 rfl (lv_at hl 3 rfl) ?_
    refine lv_aload_n hx hb dL_law_19 rfl (lv_at hl 0 rfl) ?_
    refine va_slen hx hb hX hbl hbA hS dL_law_20 ?_
    refine lv_bipush (v := 7) hx hb dL_law_21 rfl ?_
    refine lv_isub hx hb dL_law_23 ?_
    refine lv_icmp_gt (tgt := 1404) hx hb dL_law_24 (by decide) (fun c9 => ?_) (fun c9 => ?_)
    · skip
      refine va_forget hS.2.2 ?_
      refine W.widen (show 109 + 18 * n ≤ 600000 by omega) (show 2857 + 329 * n ≤ 7302250 by omega) ?_
      refine lv_iconst (v := 1) hx hb dL_law_1404 rfl ?_
      exact lw_ret hx hb hr hlk dL_law_1405
    · exact absurd ((lg7 hL h7).mpr (by omega)) c9
  | succ d ih =>
    intro n H locs ls h7 h8 hI hS hl
    refine lv_iload_n hx hb dL_law_18 rfl (lv_at hl 3 rfl) ?_
    refine lv_aload_n hx hb dL_law_19 rfl (lv_at hl 0 rfl) ?_
    refine va_slen hx hb hX hbl hbA hS dL_law_20 ?_
    refine lv_bipush (v := 7) hx hb dL_law_21 rfl ?_
    refine lv_isub hx hb dL_law_23 ?_
    refine lv_icmp_gt (tgt := 1404) hx hb dL_law_24 (by decide) (fun c9 => ?_) (fun c9 => ?_)
    · skip
      refine va_forget hS.2.2 ?_
      refine W.widen (show 109 + 18 * n ≤ 600000 by omega) (show 2857 + 329 * n ≤ 7302250 by omega) ?_
      refine lv_iconst (v := 1) hx hb dL_law_1404 rfl ?_
      exact lw_ret hx hb hr hlk dL_law_1405
    · skip
      have h77 : 7 * n + 7 ≤ L := by
        by_cases z : L < 7 * n + 7
        · exact absurd ((lg7 hL h7).mpr z) c9
        · omega
      have hL7 : L < 2147483648 := by omega
      have hcl : 109 + 18 * n + 18 ≤ room_1.cells := show _ ≤ 600000 by omega
      have hsl : 2857 + 329 * n + 329 ≤ room_1.slots := show _ ≤ 7302250 by omega
      have tail : ∀ (H : Heap) (locs : List Loc) (ls : Array Slot), lwI g x a ay ap b1 b2 b3 e t c u sx im o (fun q9 => ss.heap.size ≤ q9) H → va_S (fun q9 => ss.heap.size ≤ q9) ss.heap H locs → lv_has ls 4 [(0, .ref b), (1, .ref (x 0)), (2, .ref (o 0)), (3, .int (nI (7 * n)))] → W pp l ee room_1 ss mm #[Value.ref b] bl mt cd H locs (109 + 18 * n + 18) (2857 + 329 * n + 329) (lw_Z bl #[Value.ref b] ss) (F0 mm 1398 ls []) := by
        intro H locs ls hI hS hl
        refine lv_iinc (v := nI (7 * (n + 1))) (lv' := [(3, .int (nI (7 * (n + 1)))), (0, .ref b), (1, .ref (x 0)), (2, .ref (o 0))]) hx hb dL_law_1398 hl (k := 3) rfl inc7 (by decide) rfl (fun ls hl => ?_)
        refine lv_goto (tgt := 18) hx hb dL_law_1401 (by decide) ?_
        rw [show 109 + 18 * n + 18 = 109 + 18 * (n + 1) by omega, show 2857 + 329 * n + 329 = 2857 + 329 * (n + 1) by omega]
        exact ih (n + 1) H locs ls (by omega) (by omega) hI hS (lv_sub hl [1, 2, 3, 0] rfl)
      refine lv_aload_n hx hb dL_law_27 rfl (lv_at hl 0 rfl) ?_
      refine lv_iload_n hx hb dL_law_28 rfl (lv_at hl 3 rfl) ?_
      refine va_sld hx hb hX hbl hbA hS (pk_in (7 * n) L (by omega)) dL_law_29 ?_
      refine lv_bipush (v := 63) hx hb dL_law_30 rfl ?_
      refine lv_iand hx hb dL_law_32 ?_
      generalize xs (nI (7 * n)).toNatClampNeg &&& 63 = v8
      by_cases k0 : v8 = 0
      · refine lv_tableIn (x := v8) (tgt := 200) hx hb dL_law_33 (by rw [k0]; decide) (by rw [k0]; decide) (by rw [k0]; rfl) (by decide) ?_
        refine W.widen (Nat.le_add_right _ 18) (Nat.le_add_right _ 329) ?_
        exact lc_0 l g hC hK q9 hZ hX hbl h77 hL7 hI hS hcl hsl hl tail
      by_cases k1 : v8 = 1
      · refine lv_tableIn (x := v8) (tgt := 223) hx hb dL_law_33 (by rw [k1]; decide) (by rw [k1]; decide) (by rw [k1]; rfl) (by decide) ?_
        refine W.widen (Nat.le_add_right _ 18) (Nat.le_add_right _ 329) ?_
        exact lc_1 l g hC hK q9 hZ hX hbl h77 hL7 hI hS hcl hsl hl tail
      by_cases k2 : v8 = 2
      · refine lv_tableIn (x := v8) (tgt := 256) hx hb dL_law_33 (by rw [k2]; decide) (by rw [k2]; decide) (by rw [k2]; rfl) (by decide) ?_
        refine W.widen (Nat.le_add_right _ 18) (Nat.le_add_right _ 329) ?_
        exact lc_2 l g hC hK q9 hZ hX hbl h77 hL7 hI hS hcl hsl hl tail
      by_cases k3 : v8 = 3
      · refine lv_tableIn (x := v8) (tgt := 309) hx hb dL_law_33 (by rw [k3]; decide) (by rw [k3]; decide) (by rw [k3]; rfl) (by decide) ?_
        refine W.widen (Nat.le_add_right _ 18) (Nat.le_add_right _ 329) ?_
        exact lc_3 l g hC hK q9 hZ hX hbl h77 hL7 hI hS hcl hsl hl tail
      by_cases k4 : v8 = 4
      · refine lv_tableIn (x := v8) (tgt := 332) hx hb dL_law_33 (by rw [k4]; decide) (by rw [k4]; decide) (by rw [k4]; rfl) (by decide) ?_
        refine W.widen (Nat.le_add_right _ 18) (Nat.le_add_right _ 329) ?_
        exact lc_4 l g hC hK q9 hZ hX hbl h77 hL7 hI hS hcl hsl hl tail
      by_cases k5 : v8 = 5
      · refine lv_tableIn (x := v8) (tgt := 345) hx hb dL_law_33 (by rw [k5]; decide) (by rw [k5]; decide) (by rw [k5]; rfl) (by decide) ?_
        refine W.widen (Nat.le_add_right _ 18) (Nat.le_add_right _ 329) ?_
        exact lc_5 l g hC hK q9 hZ hX hbl h77 hL7 hI hS hcl hsl hl tail
      by_cases k6 : v8 = 6
      · refine lv_tableIn (x := v8) (tgt := 358) hx hb dL_law_33 (by rw [k6]; decide) (by rw [k6]; decide) (by rw [k6]; rfl) (by decide) ?_
        refine W.widen (Nat.le_add_right _ 18) (Nat.le_add_right _ 329) ?_
        exact lc_6 l g hC hK q9 hZ hX hbl h77 hL7 hI hS hcl hsl hl tail
      by_cases k7 : v8 = 7
      · refine lv_tableIn (x := v8) (tgt := 391) hx hb dL_law_33 (by rw [k7]; decide) (by rw [k7]; decide) (by rw [k7]; rfl) (by decide) ?_
        refine W.widen (Nat.le_add_right _ 18) (Nat.le_add_right _ 329) ?_
        exact lc_7 l g hC hK q9 hZ hX hbl h77 hL7 hI hS hcl hsl hl tail
      by_cases k8 : v8 = 8
      · refine lv_tableIn (x := v8) (tgt := 414) hx hb dL_law_33 (by rw [k8]; decide) (by rw [k8]; decide) (by rw [k8]; rfl) (by decide) ?_
        refine W.widen (Nat.le_add_right _ 18) (Nat.le_add_right _ 329) ?_
        exact lc_8 l g hC hK q9 hZ hX hbl h77 hL7 hI hS hcl hsl hl tail
      by_cases k9 : v8 = 9
      · refine lv_tableIn (x := v8) (tgt := 447) hx hb dL_law_33 (by rw [k9]; decide) (by rw [k9]; decide) (by rw [k9]; rfl) (by decide) ?_
        refine W.widen (Nat.le_add_right _ 18) (Nat.le_add_right _ 329) ?_
        exact lc_9 l g hC hK q9 hZ hX hbl h77 hL7 hI hS hcl hsl hl tail
      by_cases k10 : v8 = 10
      · refine lv_tableIn (x := v8) (tgt := 460) hx hb dL_law_33 (by rw [k10]; decide) (by rw [k10]; decide) (by rw [k10]; rfl) (by decide) ?_
        refine W.widen (Nat.le_add_right _ 18) (Nat.le_add_right _ 329) ?_
        exact lc_10 l g hC hK q9 hZ hX hbl h77 hL7 hI hS hcl hsl hl tail
      by_cases k11 : v8 = 11
      · refine lv_tableIn (x := v8) (tgt := 493) hx hb dL_law_33 (by rw [k11]; decide) (by rw [k11]; decide) (by rw [k11]; rfl) (by decide) ?_
        refine W.widen (Nat.le_add_right _ 18) (Nat.le_add_right _ 329) ?_
        exact lc_11 l g hC hK q9 hZ hX hbl h77 hL7 hI hS hcl hsl hl tail
      by_cases k12 : v8 = 12
      · refine lv_tableIn (x := v8) (tgt := 526) hx hb dL_law_33 (by rw [k12]; decide) (by rw [k12]; decide) (by rw [k12]; rfl) (by decide) ?_
        refine W.widen (Nat.le_add_right _ 18) (Nat.le_add_right _ 329) ?_
        exact lc_12 l g hC hK q9 hZ hX hbl h77 hL7 hI hS hcl hsl hl tail
      by_cases k13 : v8 = 13
      · refine lv_tableIn (x := v8) (tgt := 569) hx hb dL_law_33 (by rw [k13]; decide) (by rw [k13]; decide) (by rw [k13]; rfl) (by decide) ?_
        refine W.widen (Nat.le_add_right _ 18) (Nat.le_add_right _ 329) ?_
        exact lc_13 l g hC hK q9 hZ hX hbl h77 hL7 hI hS hcl hsl hl tail
      by_cases k14 : v8 = 14
      · refine lv_tableIn (x := v8) (tgt := 612) hx hb dL_law_33 (by rw [k14]; decide) (by rw [k14]; decide) (by rw [k14]; rfl) (by decide) ?_
        refine W.widen (Nat.le_add_right _ 18) (Nat.le_add_right _ 329) ?_
        exact lc_14 l g hC hK q9 hZ hX hbl h77 hL7 hI hS hcl hsl hl tail
      by_cases k15 : v8 = 15
      · refine lv_tableIn (x := v8) (tgt := 655) hx hb dL_law_33 (by rw [k15]; decide) (by rw [k15]; decide) (by rw [k15]; rfl) (by decide) ?_
        refine W.widen (Nat.le_add_right _ 18) (Nat.le_add_right _ 329) ?_
        exact lc_15 l g hC hK q9 hZ hX hbl h77 hL7 hI hS hcl hsl hl tail
      by_cases k16 : v8 = 16
      · refine lv_tableIn (x := v8) (tgt := 678) hx hb dL_law_33 (by rw [k16]; decide) (by rw [k16]; decide) (by rw [k16]; rfl) (by decide) ?_
        refine W.widen (Nat.le_add_right _ 18) (Nat.le_add_right _ 329) ?_
        exact lc_16 l g hC hK q9 hZ hX hbl h77 hL7 hI hS hcl hsl hl tail
      by_cases k17 : v8 = 17
      · refine lv_tableIn (x := v8) (tgt := 711) hx hb dL_law_33 (by rw [k17]; decide) (by rw [k17]; decide) (by rw [k17]; rfl) (by decide) ?_
        refine W.widen (Nat.le_add_right _ 18) (Nat.le_add_right _ 329) ?_
        exact lc_17 l g hC hK q9 hZ hX hbl h77 hL7 hI hS hcl hsl hl tail
      by_cases k18 : v8 = 18
      · refine lv_tableIn (x := v8) (tgt := 744) hx hb dL_law_33 (by rw [k18]; decide) (by rw [k18]; decide) (by rw [k18]; rfl) (by decide) ?_
        refine W.widen (Nat.le_add_right _ 18) (Nat.le_add_right _ 329) ?_
        exact lc_18 l g hC hK q9 hZ hX hbl h77 hL7 hI hS hcl hsl hl tail
      by_cases k19 : v8 = 19
      · refine lv_tableIn (x := v8) (tgt := 777) hx hb dL_law_33 (by rw [k19]; decide) (by rw [k19]; decide) (by rw [k19]; rfl) (by decide) ?_
        refine W.widen (Nat.le_add_right _ 18) (Nat.le_add_right _ 329) ?_
        exact lc_19 l g hC hK q9 hZ hX hbl h77 hL7 hI hS hcl hsl hl tail
      by_cases k20 : v8 = 20
      · refine lv_tableIn (x := v8) (tgt := 840) hx hb dL_law_33 (by rw [k20]; decide) (by rw [k20]; decide) (by rw [k20]; rfl) (by decide) ?_
        refine W.widen (Nat.le_add_right _ 18) (Nat.le_add_right _ 329) ?_
        exact lc_20 l g hC hK q9 hZ hX hbl h77 hL7 hI hS hcl hsl hl tail
      by_cases k21 : v8 = 21
      · refine lv_tableIn (x := v8) (tgt := 863) hx hb dL_law_33 (by rw [k21]; decide) (by rw [k21]; decide) (by rw [k21]; rfl) (by decide) ?_
        refine W.widen (Nat.le_add_right _ 18) (Nat.le_add_right _ 329) ?_
        exact lc_21 l g hC hK q9 hZ hX hbl h77 hL7 hI hS hcl hsl hl tail
      by_cases k22 : v8 = 22
      · refine lv_tableIn (x := v8) (tgt := 886) hx hb dL_law_33 (by rw [k22]; decide) (by rw [k22]; decide) (by rw [k22]; rfl) (by decide) ?_
        refine W.widen (Nat.le_add_right _ 18) (Nat.le_add_right _ 329) ?_
        exact lc_22 l g hC hK q9 hZ hX hbl h77 hL7 hI hS hcl hsl hl tail
      by_cases k23 : v8 = 23
      · refine lv_tableIn (x := v8) (tgt := 961) hx hb dL_law_33 (by rw [k23]; decide) (by rw [k23]; decide) (by rw [k23]; rfl) (by decide) ?_
        refine W.widen (Nat.le_add_right _ 18) (Nat.le_add_right _ 329) ?_
        exact lc_23 l g hC hK q9 hZ hX hbl h77 hL7 hI hS hcl hsl hl tail
      by_cases k24 : v8 = 24
      · refine lv_tableIn (x := v8) (tgt := 1024) hx hb dL_law_33 (by rw [k24]; decide) (by rw [k24]; decide) (by rw [k24]; rfl) (by decide) ?_
        refine W.widen (Nat.le_add_right _ 18) (Nat.le_add_right _ 329) ?_
        exact lc_24 l g hC hK q9 hZ hX hbl h77 hL7 hI hS hcl hsl hl tail
      by_cases k25 : v8 = 25
      · refine lv_tableIn (x := v8) (tgt := 1047) hx hb dL_law_33 (by rw [k25]; decide) (by rw [k25]; decide) (by rw [k25]; rfl) (by decide) ?_
        refine W.widen (Nat.le_add_right _ 18) (Nat.le_add_right _ 329) ?_
        exact lc_25 l g hC hK q9 hZ hX hbl h77 hL7 hI hS hcl hsl hl tail
      by_cases k26 : v8 = 26
      · refine lv_tableIn (x := v8) (tgt := 1070) hx hb dL_law_33 (by rw [k26]; decide) (by rw [k26]; decide) (by rw [k26]; rfl) (by decide) ?_
        refine W.widen (Nat.le_add_right _ 18) (Nat.le_add_right _ 329) ?_
        exact lc_26 l g hC hK q9 hZ hX hbl h77 hL7 hI hS hcl hsl hl tail
      by_cases k27 : v8 = 27
      · refine lv_tableIn (x := v8) (tgt := 1093) hx hb dL_law_33 (by rw [k27]; decide) (by rw [k27]; decide) (by rw [k27]; rfl) (by decide) ?_
        refine W.widen (Nat.le_add_right _ 18) (Nat.le_add_right _ 329) ?_
        exact lc_27 l g hC hK q9 hZ hX hbl h77 hL7 hI hS hcl hsl hl tail
      by_cases k28 : v8 = 28
      · refine lv_tableIn (x := v8) (tgt := 1116) hx hb dL_law_33 (by rw [k28]; decide) (by rw [k28]; decide) (by rw [k28]; rfl) (by decide) ?_
        refine W.widen (Nat.le_add_right _ 18) (Nat.le_add_right _ 329) ?_
        exact lc_28 l g hC hK q9 hZ hX hbl h77 hL7 hI hS hcl hsl hl tail
      by_cases k29 : v8 = 29
      · refine lv_tableIn (x := v8) (tgt := 1139) hx hb dL_law_33 (by rw [k29]; decide) (by rw [k29]; decide) (by rw [k29]; rfl) (by decide) ?_
        refine W.widen (Nat.le_add_right _ 18) (Nat.le_add_right _ 329) ?_
        exact lc_29 l g hC hK q9 hZ hX hbl h77 hL7 hI hS hcl hsl hl tail
      by_cases k30 : v8 = 30
      · refine lv_tableIn (x := v8) (tgt := 1182) hx hb dL_law_33 (by rw [k30]; decide) (by rw [k30]; decide) (by rw [k30]; rfl) (by decide) ?_
        refine W.widen (Nat.le_add_right _ 18) (Nat.le_add_right _ 329) ?_
        exact lc_30 l g hC hK q9 hZ hX hbl h77 hL7 hI hS hcl hsl hl tail
      by_cases k31 : v8 = 31
      · refine lv_tableIn (x := v8) (tgt := 1235) hx hb dL_law_33 (by rw [k31]; decide) (by rw [k31]; decide) (by rw [k31]; rfl) (by decide) ?_
        refine W.widen (Nat.le_add_right _ 18) (Nat.le_add_right _ 329) ?_
        exact lc_31 l g hC hK q9 hZ hX hbl h77 hL7 hI hS hcl hsl hl tail
      by_cases k32 : v8 = 32
      · refine lv_tableIn (x := v8) (tgt := 1268) hx hb dL_law_33 (by rw [k32]; decide) (by rw [k32]; decide) (by rw [k32]; rfl) (by decide) ?_
        refine W.widen (Nat.le_add_right _ 18) (Nat.le_add_right _ 329) ?_
        exact lc_32 l g hC hK q9 hZ hX hbl h77 hL7 hI hS hcl hsl hl tail
      by_cases k33 : v8 = 33
      · refine lv_tableIn (x := v8) (tgt := 1292) hx hb dL_law_33 (by rw [k33]; decide) (by rw [k33]; decide) (by rw [k33]; rfl) (by decide) ?_
        exact lc_33 l g hC hK q9 hZ hX hbl h77 hL7 hI hS hcl hsl hl tail
      by_cases k34 : v8 = 34
      · refine lv_tableIn (x := v8) (tgt := 1315) hx hb dL_law_33 (by rw [k34]; decide) (by rw [k34]; decide) (by rw [k34]; rfl) (by decide) ?_
        refine W.widen (Nat.le_add_right _ 18) (Nat.le_add_right _ 329) ?_
        exact lc_34 l g hC hK q9 hZ hX hbl h77 hL7 hI hS hcl hsl hl tail
      by_cases k35 : v8 = 35
      · refine lv_tableIn (x := v8) (tgt := 1338) hx hb dL_law_33 (by rw [k35]; decide) (by rw [k35]; decide) (by rw [k35]; rfl) (by decide) ?_
        refine W.widen (Nat.le_add_right _ 18) (Nat.le_add_right _ 329) ?_
        exact lc_35 l g hC hK q9 hZ hX hbl h77 hL7 hI hS hcl hsl hl tail
      by_cases k36 : v8 = 36
      · refine lv_tableIn (x := v8) (tgt := 1361) hx hb dL_law_33 (by rw [k36]; decide) (by rw [k36]; decide) (by rw [k36]; rfl) (by decide) ?_
        refine W.widen (Nat.le_add_right _ 18) (Nat.le_add_right _ 329) ?_
        exact lc_36 l g hC hK q9 hZ hX hbl h77 hL7 hI hS hcl hsl hl tail
      by_cases k37 : v8 = 37
      · refine lv_tableIn (x := v8) (tgt := 1384) hx hb dL_law_33 (by rw [k37]; decide) (by rw [k37]; decide) (by rw [k37]; rfl) (by decide) ?_
        refine W.widen (Nat.le_add_right _ 18) (Nat.le_add_right _ 329) ?_
        exact lc_37 l g hC hK q9 hZ hX hbl h77 hL7 hI hS hcl hsl hl tail
      refine lv_tableOut (x := v8) (tgt := 1398) hx hb dL_law_33 ?_ (by decide) ?_
      · have nn : ∀ j : Nat, j < 38 → ¬ v8 = nI j := fun j hj => by
          match j, hj with
          | 0, _ => exact k0
          | 1, _ => exact k1
          | 2, _ => exact k2
          | 3, _ => exact k3
          | 4, _ => exact k4
          | 5, _ => exact k5
          | 6, _ => exact k6
          | 7, _ => exact k7
          | 8, _ => exact k8
          | 9, _ => exact k9
          | 10, _ => exact k10
          | 11, _ => exact k11
          | 12, _ => exact k12
          | 13, _ => exact k13
          | 14, _ => exact k14
          | 15, _ => exact k15
          | 16, _ => exact k16
          | 17, _ => exact k17
          | 18, _ => exact k18
          | 19, _ => exact k19
          | 20, _ => exact k20
          | 21, _ => exact k21
          | 22, _ => exact k22
          | 23, _ => exact k23
          | 24, _ => exact k24
          | 25, _ => exact k25
          | 26, _ => exact k26
          | 27, _ => exact k27
          | 28, _ => exact k28
          | 29, _ => exact k29
          | 30, _ => exact k30
          | 31, _ => exact k31
          | 32, _ => exact k32
          | 33, _ => exact k33
          | 34, _ => exact k34
          | 35, _ => exact k35
          | 36, _ => exact k36
          | 37, _ => exact k37
          | j + 38, hj => exact absurd hj (by omega)
        rcases Int.lt_or_le v8.toInt 0 with z | z
        · exact Or.inl z
        · right
          obtain ⟨j, j1, j2, j3⟩ := nI_ofT z
          by_cases hj : j < 38
          · exact absurd j2 (nn j hj)
          · omega
      · refine W.widen (Nat.le_add_right _ 18) (Nat.le_add_right _ 329) ?_
        exact tail H locs ls hI hS hl
