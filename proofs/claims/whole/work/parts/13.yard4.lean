theorem ckX7_canStrikeBits : ckV yX7_canStrikeBits cX7_canStrikeBits 4 (some .int) 1 := ⟨(gw_in m_596 rfl), (gw_in m_64 rfl), ⟨(gw_in m_594 rfl), (gw_in m_595 rfl)⟩, by decide +kernel, by decide +kernel, by decide +kernel⟩
theorem ckX7_brokenBits : ckV yX7_brokenBits cX7_brokenBits 3 (some .int) 0 := ⟨(gw_in m_891 rfl), (gw_in m_64 rfl), ⟨(gw_in m_889 rfl), (gw_in m_890 rfl)⟩, by decide +kernel, by decide +kernel, by decide +kernel⟩
theorem ckX7_fact : ckV yX7_fact cX7_fact 3 (some .int) 2 := ⟨(gw_in m_592 rfl), (gw_in m_64 rfl), ⟨(gw_in m_590 rfl), (gw_in m_591 rfl)⟩, by decide +kernel, by decide +kernel, by decide +kernel⟩
theorem ckX7_sumOf : ckV yX7_sumOf cX7_sumOf 4 (some .int) 1 := ⟨(gw_in m_934 rfl), (gw_in m_64 rfl), ⟨(gw_in m_932 rfl), (gw_in m_933 rfl)⟩, by decide +kernel, by decide +kernel, by decide +kernel⟩
theorem ckX7_playerFact : ckV yX7_playerFact cX7_playerFact 6 (some .int) 2 := ⟨(gw_in m_630 rfl), (gw_in m_64 rfl), ⟨(gw_in m_628 rfl), (gw_in m_629 rfl)⟩, by decide +kernel, by decide +kernel, by decide +kernel⟩
theorem ckX7_copyChangesOf : ckV yX7_copyChangesOf cX7_copyChangesOf 2 none 1 := ⟨(gw_in m_563 rfl), (gw_in m_64 rfl), ⟨(gw_in m_561 rfl), (gw_in m_562 rfl)⟩, by decide +kernel, by decide +kernel, by decide +kernel⟩
theorem ckX7_copyOf : ckV yX7_copyOf cX7_copyOf 2 none 1 := ⟨(gw_in m_556 rfl), (gw_in m_64 rfl), ⟨(gw_in m_554 rfl), (gw_in m_555 rfl)⟩, by decide +kernel, by decide +kernel, by decide +kernel⟩
theorem ckX7_ranksAhead : ckV yX7_ranksAhead cX7_ranksAhead 3 (some .boolean) 2 := ⟨(gw_in m_672 rfl), (gw_in m_64 rfl), ⟨(gw_in m_671 rfl), (gw_in m_20 rfl)⟩, by decide +kernel, by decide +kernel, by decide +kernel⟩
theorem ckX7_ranked : ckV yX7_ranked cX7_ranked 5 (some .int) 1 := ⟨(gw_in m_668 rfl), (gw_in m_64 rfl), ⟨(gw_in m_666 rfl), (gw_in m_667 rfl)⟩, by decide +kernel, by decide +kernel, by decide +kernel⟩
theorem ckX7_foldInto : ckV yX7_foldInto cX7_foldInto 5 (some .long) 1 := ⟨(gw_in m_945 rfl), (gw_in m_64 rfl), ⟨(gw_in m_943 rfl), (gw_in m_944 rfl)⟩, by decide +kernel, by decide +kernel, by decide +kernel⟩
def setB (p : Nat → Bool) : Nat → Int32
  | 0 => 0
  | n + 1 => if p n = true then setB p n ||| ((1 : Int32) <<< (nI n &&& 31)) else setB p n
theorem setB_t {p : Nat → Bool} {n : Nat} (h : p n = true) : setB p n ||| ((1 : Int32) <<< (nI n &&& 31)) = setB p (n + 1) := by simp only [setB, h, if_true]
theorem setB_f {p : Nat → Bool} {n : Nat} (h : p n = false) : setB p n = setB p (n + 1) := by
  show _ = if p n = true then _ else _
  rw [h, if_neg (by decide)]
def sumN (f : Nat → Int32) : Nat → Int32
  | 0 => 0
  | n + 1 => sumN f n + f n
def sumI (p : Nat → Bool) (f : Nat → Int32) : Nat → Int32
  | 0 => 0
  | n + 1 => if p n = true then sumI p f n + f n else sumI p f n
theorem sumI_t {p : Nat → Bool} {f : Nat → Int32} {n : Nat} (h : p n = true) : sumI p f n + f n = sumI p f (n + 1) := by simp only [sumI, h, if_true]
theorem sumI_f {p : Nat → Bool} {f : Nat → Int32} {n : Nat} (h : p n = false) : sumI p f n = sumI p f (n + 1) := by
  show _ = if p n = true then _ else _
  rw [h, if_neg (by decide)]
theorem lp_lt {n : Nat} {x : Int32} (hn : n < 2147483648) (h : ¬ x ≤ nI n) : (n : Int) < x.toInt := by
  rw [Int32.le_iff_toInt_le, nI_toInt hn] at h; omega
theorem lp_ge {n : Nat} {x : Int32} (hn : n < 2147483648) (h : x ≤ nI n) : x.toInt ≤ n := by
  rw [Int32.le_iff_toInt_le, nI_toInt hn] at h; omega
theorem nI_ti {n : Nat} (hn : n < 2147483648) : (nI n).toInt = n := nI_toInt hn
theorem cl_nI {n : Nat} (hn : n < 2147483648) : cl (nI n) = n := nI_clamp hn
theorem nut_nI {r : Nat → Int32} {n : Nat} (h : (n : Int) < (r 2).toInt) : yNut r (nI n) = true := by
  have := (r 2).toInt_lt
  rw [yNut_ti, nI_ti (by omega)]; omega
/-- of a nut, of a player -/
def yFact (r : Nat → Int32) (i w : Int32) : Int32 := if yNut r i = true then (if w = 0 then r (9 + cl i) else if w = 1 then r (15 + cl i) else if w = 2 then r (21 + cl i) else if w = 3 then r (27 + cl i) else if w = 4 then r (33 + cl i) else if w = 5 then r (39 + cl i) else if w = 6 then fo r i (yNext r) else setB (fun j => yCan r i (nI j)) (cl (r 2))) else -2
def yPF (r : Nat → Int32) (q w : Int32) : Int32 := if yPl r q = true then (if w = 0 then r (3 + cl q) else if w = 1 then r (6 + cl q) else if w = 2 then setB (fun j => yWof r (nI j) q) (cl (r 2)) else sumI (fun j => yWof r (nI j) q) (fun j => r (39 + j)) (cl (r 2))) else -2
/-- number, cracks and scores of another -/
def chg (r q : Nat → Int32) : Nat → Int32 := fun k => if k = 0 ∨ 33 ≤ k then q k else r k
theorem chg_0 {r q : Nat → Int32} : q 0 = chg r q 0 := rfl
theorem chg_1 {r q : Nat → Int32} : r 1 = chg r q 1 := rfl
theorem chg_2 {r q : Nat → Int32} : r 2 = chg r q 2 := rfl
theorem chg_lo {r q : Nat → Int32} {k : Nat} (h : 0 < k) (h' : k < 33) : chg r q k = r k := if_neg (by omega)
theorem chg_mid {r q : Nat → Int32} : chg (fun k => if 0 < k ∧ k < 33 then q k else r k) q = q := by
  funext k
  unfold chg
  by_cases h : k = 0 ∨ 33 ≤ k
  · rw [if_pos h]
  · rw [if_neg h]; exact if_pos (by omega)
def mid (r q : Nat → Int32) : Nat → Int32 := fun k => if 0 < k ∧ k < 33 then q k else r k
theorem mid_lo {r q : Nat → Int32} {k : Nat} (h : 0 < k ∧ k < 33) : mid r q k = q k := if_pos h
theorem mid_hi {r q : Nat → Int32} {k : Nat} (h : k = 0 ∨ 33 ≤ k) : mid r q k = r k := if_neg (by omega)
theorem b2i_inj {a b : Bool} : b2i a = b2i b ↔ a = b := by cases a <;> cases b <;> decide
def yAhead (r : Nat → Int32) (i j : Int32) : Bool := yNut r i && yNut r j && (if yBrk r i = yBrk r j then (if r (39 + cl i) = r (39 + cl j) then decide (i < j) else decide (r (39 + cl j) < r (39 + cl i))) else yBrk r j)
def cntB (p : Nat → Bool) : Nat → Int32
  | 0 => 0
  | n + 1 => if p n = true then cntB p n + 1 else cntB p n
theorem cntB_t {p : Nat → Bool} {n : Nat} (h : p n = true) : cntB p n + 1 = cntB p (n + 1) := by simp only [cntB, h, if_true]
theorem cntB_f {p : Nat → Bool} {n : Nat} (h : p n = false) : cntB p n = cntB p (n + 1) := by
  show _ = if p n = true then _ else _
  rw [h, if_neg (by decide)]
def fstN (p : Nat → Bool) (n : Nat) : Int32 := match (List.range n).find? p with
  | some i => nI i
  | none => -1
theorem fst_hit {p : Nat → Bool} {n i : Nat} (h : p i = true) (hi : i < n) (hb : ∀ j, j < i → p j = false) : fstN p n = nI i := by
  have e : (List.range n).find? p = some i := List.find?_range_eq_some.mpr ⟨h, List.mem_range.mpr hi, fun j hj => by rw [hb j hj]; rfl⟩
  unfold fstN
  rw [e]
theorem fst_none {p : Nat → Bool} {n : Nat} (hb : ∀ j, j < n → p j = false) : fstN p n = -1 := by
  have e : (List.range n).find? p = none := List.find?_range_eq_none.mpr fun j hj => by rw [hb j hj]; rfl
  unfold fstN
  rw [e]
def dgP (r : Nat → Int32) (h : Int64) : Nat → Int64
  | 0 => h
  | n + 1 => 31 * (31 * dgP r h n + (r (3 + n)).toInt64) + (r (6 + n)).toInt64
def dgK (f : Nat → Int32) (h : Int64) : Nat → Int64
  | 0 => h
  | n + 1 => 31 * dgK f h n + (f n).toInt64
def dgN (r : Nat → Int32) (h : Int64) : Nat → Int64
  | 0 => h
  | n + 1 => dgK (fun z => r (9 + 6 * z + n)) (dgN r h n) 6
theorem pl_nI {r : Nat → Int32} {n : Nat} (h : (n : Int) < (r 1).toInt) : yPl r (nI n) = true := by
  have := (r 1).toInt_lt
  rw [yPl_ti, nI_ti (by omega)]; omega
theorem yPF_0 {r : Nat → Int32} {n : Nat} (h : yPl r (nI n) = true) (hn : n < 2147483648) : yPF r (nI n) 0 = r (3 + n) := by
  unfold yPF; rw [if_pos h, if_pos rfl, cl_nI hn]
theorem yPF_1 {r : Nat → Int32} {n : Nat} (h : yPl r (nI n) = true) (hn : n < 2147483648) : yPF r (nI n) 1 = r (6 + n) := by
  unfold yPF; rw [if_pos h, if_neg (by decide), if_pos rfl, cl_nI hn]
theorem yFact_6 {r : Nat → Int32} {n w : Nat} (h : yNut r (nI n) = true) (hw : w < 6) (hn : n < 2147483648) : yFact r (nI n) (nI w) = r (9 + 6 * w + n) := by
  unfold yFact
  rw [if_pos h, cl_nI hn]
  match w, hw with
  | 0, _ => rfl
  | 1, _ => rfl
  | 2, _ => rfl
  | 3, _ => rfl
  | 4, _ => rfl
  | 5, _ => rfl
theorem chg_hi {r q : Nat → Int32} {k : Nat} (h : 33 ≤ k) : chg r q k = q k := if_pos (Or.inr h)
set_option maxHeartbeats 4000000 in
set_option maxRecDepth 100000 in
theorem kX7_canStrikeBits (l : Launch) (g : gG) (a : Nat → Nat) (r : Nat → Int32) (i : Int32) (hw : Wf r) : Met l yX7_canStrikeBits (.code yX7_canStrikeBits cX7_canStrikeBits 4 (some .int) :: gw) (rmN 2) (va_Pc [.ref (a 0), .int (i)] (roPre g (yW g a r))) (vp_Si (fun v => v = (setB (fun j => yCan r i (nI j)) (cl (r 2))))) 0 0 (fun _ => False) := by
  refine met_start (by decide) (Nat.le_of_ble_eq_true rfl) ?_
  intro pp ee ss mm bl mt cd hC hpre ls hl
  obtain ⟨⟨hx, hb, hml, hown, hts⟩, hr, hlk, hnm⟩ := id hC
  have hl : lv_has ls 4 [(0, .ref (a 0)), (1, .int (i))] := hl
  obtain ⟨hP, hK⟩ := hpre
  refine lv_iconst (v := 0) hx hb dX7_canStrikeBits_0 rfl ?_
  refine lv_istore_n (lv' := [(2, .int (0)), (0, .ref (a 0)), (1, .int (i))]) hx hb dX7_canStrikeBits_1 rfl hl (by decide) rfl (fun ls hl => ?_)
  refine lv_iconst (v := 0) hx hb dX7_canStrikeBits_2 rfl ?_
  refine lv_istore_n (lv' := [(3, .int (0)), (2, .int (0)), (0, .ref (a 0)), (1, .int (i))]) hx hb dX7_canStrikeBits_3 rfl hl (by decide) rfl (fun ls hl => ?_)
  have cut4 : ∀ kk : Nat, ∀ (n : Nat), 7 - n < kk → (hn : (n : Int) ≤ (r 2).toInt) → ∀ (ls : Array Slot), lv_has ls 4 [(0, .ref (a 0)), (1, .int (i)), (2, .int (setB (fun j => yCan r i (nI j)) n)), (3, .int (nI n))] → W pp l ee (rmN 2) ss mm ([.ref (a 0), .int (i)] : List Value).toArray bl mt cd ss.heap [] 0 0 (MQ bl (vp_Si (fun v => v = (setB (fun j => yCan r i (nI j)) (cl (r 2))))) ([.ref (a 0), .int (i)] : List Value).toArray ss 0 0 (fun _ => False)) (F0 mm 4 ls []) := by
    intro kk
    induction kk with
    | zero => intro n hmu; exact absurd hmu (Nat.not_lt_zero _)
    | succ kk ih4 =>
      intro n hmu hn ls hl
      refine lv_iload_n hx hb dX7_canStrikeBits_4 rfl (lv_at hl 3 rfl) ?_
      refine lv_aload_n hx hb dX7_canStrikeBits_5 rfl (lv_at hl 0 rfl) ?_
      refine kget hC.1 hK hP 0 rfl rfl in_7 1 (by decide) (gw_in m_102 rfl) rfl dX7_canStrikeBits_6 ?_
      refine lv_icmp_ge (tgt := 33) hx hb dX7_canStrikeBits_9 (by decide) (fun c1 => ?_) (fun c1 => ?_)
      · skip
        have c1' := Int32.not_lt.mpr c1
        have hge := lp_ge (by have := hw.n6; omega) c1
        have hend : cl (r 2) = n := by have := cl_ti (i := r 2) hw.2.2.1.1; omega
        refine lv_iload_n hx hb dX7_canStrikeBits_33 rfl (lv_at hl 2 rfl) ?_
        exact ret_roi hx hb hr hlk (by rw [hend]) dX7_canStrikeBits_34
      · skip
        have c1' := Int32.not_le.mp c1
        have hlt := lp_lt (by have := hw.n6; omega) c1
        have hni := nut_nI hlt
        refine lv_aload_n hx hb dX7_canStrikeBits_12 rfl (lv_at hl 0 rfl) ?_
        refine lv_iload_n hx hb dX7_canStrikeBits_13 rfl (lv_at hl 1 rfl) ?_
        refine lv_iload_n hx hb dX7_canStrikeBits_14 rfl (lv_at hl 3 rfl) ?_
        refine ro_i (run_V (As := [.int (i), .int (nI n)]) (rest := []) hC.1 ckX7_canStrike (kX7_canStrike l g a r i (nI n) hw.n6) (gw_in m_510 rfl) (fb_ro _ _ _) (va_recv hK.1 hP (q0 := 0) rfl rfl) (fun U hU hW => ⟨by rw [hU]; exact hP, kK_warm hW hK⟩) ⟨rfl, rfl, Nat.le_of_ble_eq_true rfl, Nat.le_of_ble_eq_true rfl⟩ rfl hl.1 rfl (Nat.le_of_ble_eq_true rfl) dX7_canStrikeBits_15 ⟨Nat.le_of_ble_eq_true rfl, Nat.le_of_ble_eq_true rfl⟩) ?_
        refine lv_if_eq (tgt := 27) hx hb dX7_canStrikeBits_18 (by decide) (fun c2 => ?_) (fun c2 => ?_)
        · skip
          have c2 := b2i_0 c2
          refine lv_iinc (v := nI (n + 1)) (lv' := [(3, .int (nI (n + 1))), (0, .ref (a 0)), (1, .int (i)), (2, .int (setB (fun j => yCan r i (nI j)) n))]) hx hb dX7_canStrikeBits_27 hl (k := 3) rfl (inc_nI n) (by decide) rfl (fun ls hl => ?_)
          refine lv_goto (tgt := 4) hx hb dX7_canStrikeBits_30 (by decide) ?_
          rw [setB_f (p := (fun j => yCan r i (nI j))) c2] at hl
          exact ih4 (n + 1) (by have := hw.n6; omega) (by omega) _ (lv_sub hl [1, 2, 3, 0] rfl)
        · skip
          have c2 := b2i_1 c2
          refine lv_iload_n hx hb dX7_canStrikeBits_21 rfl (lv_at hl 2 rfl) ?_
          refine lv_iconst (v := 1) hx hb dX7_canStrikeBits_22 rfl ?_
          refine lv_iload_n hx hb dX7_canStrikeBits_23 rfl (lv_at hl 3 rfl) ?_
          refine lv_ishl hx hb dX7_canStrikeBits_24 ?_
          refine lv_ior hx hb dX7_canStrikeBits_25 ?_
          refine top_i (x := (setB (fun j => yCan r i (nI j)) n) ||| (1 <<< ((nI n) &&& 31))) (y := setB (fun j => yCan r i (nI j)) (n + 1)) (setB_t (p := (fun j => yCan r i (nI j))) c2) ?_
          refine lv_istore_n (lv' := [(2, .int (setB (fun j => yCan r i (nI j)) (n + 1))), (0, .ref (a 0)), (1, .int (i)), (3, .int (nI n))]) hx hb dX7_canStrikeBits_26 rfl hl (by decide) rfl (fun ls hl => ?_)
          refine lv_iinc (v := nI (n + 1)) (lv' := [(3, .int (nI (n + 1))), (2, .int (setB (fun j => yCan r i (nI j)) (n + 1))), (0, .ref (a 0)), (1, .int (i))]) hx hb dX7_canStrikeBits_27 hl (k := 3) rfl (inc_nI n) (by decide) rfl (fun ls hl => ?_)
          refine lv_goto (tgt := 4) hx hb dX7_canStrikeBits_30 (by decide) ?_
          exact ih4 (n + 1) (by have := hw.n6; omega) (by omega) _ (lv_sub hl [2, 3, 1, 0] rfl)
  exact cut4 _ 0 (Nat.lt_succ_self _) (by have := hw.2.2.1.1; exact this) _ (lv_sub hl [2, 3, 1, 0] rfl)
set_option maxHeartbeats 4000000 in
set_option maxRecDepth 100000 in
theorem kX7_brokenBits (l : Launch) (g : gG) (a : Nat → Nat) (r : Nat → Int32)  (hw : Wf r) : Met l yX7_brokenBits (.code yX7_brokenBits cX7_brokenBits 3 (some .int) :: gw) (rmN 2) (va_Pc [.ref (a 0)] (roPre g (yW g a r))) (vp_Si (fun v => v = (setB (fun j => yBrk r (nI j)) (cl (r 2))))) 0 0 (fun _ => False) := by
  refine met_start (by decide) (Nat.le_of_ble_eq_true rfl) ?_
  intro pp ee ss mm bl mt cd hC hpre ls hl
  obtain ⟨⟨hx, hb, hml, hown, hts⟩, hr, hlk, hnm⟩ := id hC
  have hl : lv_has ls 3 [(0, .ref (a 0))] := hl
  obtain ⟨hP, hK⟩ := hpre
  refine lv_iconst (v := 0) hx hb dX7_brokenBits_0 rfl ?_
  refine lv_istore_n (lv' := [(1, .int (0)), (0, .ref (a 0))]) hx hb dX7_brokenBits_1 rfl hl (by decide) rfl (fun ls hl => ?_)
  refine lv_iconst (v := 0) hx hb dX7_brokenBits_2 rfl ?_
  refine lv_istore_n (lv' := [(2, .int (0)), (1, .int (0)), (0, .ref (a 0))]) hx hb dX7_brokenBits_3 rfl hl (by decide) rfl (fun ls hl => ?_)
  have cut4 : ∀ kk : Nat, ∀ (n : Nat), 7 - n < kk → (hn : (n : Int) ≤ (r 2).toInt) → ∀ (ls : Array Slot), lv_has ls 3 [(0, .ref (a 0)), (1, .int (setB (fun j => yBrk r (nI j)) n)), (2, .int (nI n))] → W pp l ee (rmN 2) ss mm ([.ref (a 0)] : List Value).toArray bl mt cd ss.heap [] 0 0 (MQ bl (vp_Si (fun v => v = (setB (fun j => yBrk r (nI j)) (cl (r 2))))) ([.ref (a 0)] : List Value).toArray ss 0 0 (fun _ => False)) (F0 mm 4 ls []) := by
    intro kk
    induction kk with
    | zero => intro n hmu; exact absurd hmu (Nat.not_lt_zero _)
    | succ kk ih4 =>
      intro n hmu hn ls hl
      refine lv_iload_n hx hb dX7_brokenBits_4 rfl (lv_at hl 2 rfl) ?_
      refine lv_aload_n hx hb dX7_brokenBits_5 rfl (lv_at hl 0 rfl) ?_
      refine kget hC.1 hK hP 0 rfl rfl in_7 1 (by decide) (gw_in m_102 rfl) rfl dX7_brokenBits_6 ?_
      refine lv_icmp_ge (tgt := 32) hx hb dX7_brokenBits_9 (by decide) (fun c1 => ?_) (fun c1 => ?_)
      · skip
        have c1' := Int32.not_lt.mpr c1
        have hge := lp_ge (by have := hw.n6; omega) c1
        have hend : cl (r 2) = n := by have := cl_ti (i := r 2) hw.2.2.1.1; omega
        refine lv_iload_n hx hb dX7_brokenBits_32 rfl (lv_at hl 1 rfl) ?_
        exact ret_roi hx hb hr hlk (by rw [hend]) dX7_brokenBits_33
      · skip
        have c1' := Int32.not_le.mp c1
        have hlt := lp_lt (by have := hw.n6; omega) c1
        have hni := nut_nI hlt
        refine lv_aload_n hx hb dX7_brokenBits_12 rfl (lv_at hl 0 rfl) ?_
        refine lv_iload_n hx hb dX7_brokenBits_13 rfl (lv_at hl 2 rfl) ?_
        refine ro_i (run_V (As := [.int (nI n)]) (rest := []) hC.1 ckX7_isBroken (kX7_isBroken l g a r (nI n) hw.n6) (gw_in m_542 rfl) (fb_ro _ _ _) (va_recv hK.1 hP (q0 := 0) rfl rfl) (fun U hU hW => ⟨by rw [hU]; exact hP, kK_warm hW hK⟩) ⟨rfl, rfl, Nat.le_of_ble_eq_true rfl, Nat.le_of_ble_eq_true rfl⟩ rfl hl.1 rfl (Nat.le_of_ble_eq_true rfl) dX7_brokenBits_14 ⟨Nat.le_of_ble_eq_true rfl, Nat.le_of_ble_eq_true rfl⟩) ?_
        refine lv_if_eq (tgt := 26) hx hb dX7_brokenBits_17 (by decide) (fun c2 => ?_) (fun c2 => ?_)
        · skip
          have c2 := b2i_0 c2
          refine lv_iinc (v := nI (n + 1)) (lv' := [(2, .int (nI (n + 1))), (0, .ref (a 0)), (1, .int (setB (fun j => yBrk r (nI j)) n))]) hx hb dX7_brokenBits_26 hl (k := 2) rfl (inc_nI n) (by decide) rfl (fun ls hl => ?_)
          refine lv_goto (tgt := 4) hx hb dX7_brokenBits_29 (by decide) ?_
          rw [setB_f (p := (fun j => yBrk r (nI j))) c2] at hl
          exact ih4 (n + 1) (by have := hw.n6; omega) (by omega) _ (lv_sub hl [1, 2, 0] rfl)
        · skip
          have c2 := b2i_1 c2
          refine lv_iload_n hx hb dX7_brokenBits_20 rfl (lv_at hl 1 rfl) ?_
          refine lv_iconst (v := 1) hx hb dX7_brokenBits_21 rfl ?_
          refine lv_iload_n hx hb dX7_brokenBits_22 rfl (lv_at hl 2 rfl) ?_
          refine lv_ishl hx hb dX7_brokenBits_23 ?_
          refine lv_ior hx hb dX7_brokenBits_24 ?_
          refine top_i (x := (setB (fun j => yBrk r (nI j)) n) ||| (1 <<< ((nI n) &&& 31))) (y := setB (fun j => yBrk r (nI j)) (n + 1)) (setB_t (p := (fun j => yBrk r (nI j))) c2) ?_
          refine lv_istore_n (lv' := [(1, .int (setB (fun j => yBrk r (nI j)) (n + 1))), (0, .ref (a 0)), (2, .int (nI n))]) hx hb dX7_brokenBits_25 rfl hl (by decide) rfl (fun ls hl => ?_)
          refine lv_iinc (v := nI (n + 1)) (lv' := [(2, .int (nI (n + 1))), (1, .int (setB (fun j => yBrk r (nI j)) (n + 1))), (0, .ref (a 0))]) hx hb dX7_brokenBits_26 hl (k := 2) rfl (inc_nI n) (by decide) rfl (fun ls hl => ?_)
          refine lv_goto (tgt := 4) hx hb dX7_brokenBits_29 (by decide) ?_
          exact ih4 (n + 1) (by have := hw.n6; omega) (by omega) _ (lv_sub hl [2, 1, 0] rfl)
  exact cut4 _ 0 (Nat.lt_succ_self _) (by have := hw.2.2.1.1; exact this) _ (lv_sub hl [2, 1, 0] rfl)
set_option maxHeartbeats 4000000 in
set_option maxRecDepth 100000 in
theorem kX7_fact (l : Launch) (g : gG) (a : Nat → Nat) (r : Nat → Int32) (i w : Int32) (hw : Wf r) : Met l yX7_fact (.code yX7_fact cX7_fact 3 (some .int) :: gw) (rmN 3) (va_Pc [.ref (a 0), .int (i), .int (w)] (roPre g (yW g a r))) (vp_Si (fun v => v = (yFact r i w))) 0 0 (fun _ => False) := by
  refine met_start (by decide) (Nat.le_of_ble_eq_true rfl) ?_
  intro pp ee ss mm bl mt cd hC hpre ls hl
  obtain ⟨⟨hx, hb, hml, hown, hts⟩, hr, hlk, hnm⟩ := id hC
  have hl : lv_has ls 3 [(0, .ref (a 0)), (1, .int (i)), (2, .int (w))] := hl
  obtain ⟨hP, hK⟩ := hpre
  refine lv_aload_n hx hb dX7_fact_0 rfl (lv_at hl 0 rfl) ?_
  refine lv_iload_n hx hb dX7_fact_1 rfl (lv_at hl 1 rfl) ?_
  refine ro_i (run_V (As := [.int (i)]) (rest := []) hC.1 ckX7_isNut (kX7_isNut l g a r i) (gw_in m_502 rfl) (fb_ro _ _ _) (va_recv hK.1 hP (q0 := 0) rfl rfl) (fun U hU hW => ⟨by rw [hU]; exact hP, kK_warm hW hK⟩) ⟨rfl, rfl, Nat.le_of_ble_eq_true rfl, Nat.le_of_ble_eq_true rfl⟩ rfl hl.1 rfl (Nat.le_of_ble_eq_true rfl) dX7_fact_2 ⟨Nat.le_of_ble_eq_true rfl, Nat.le_of_ble_eq_true rfl⟩) ?_
  refine lv_if_ne (tgt := 11) hx hb dX7_fact_5 (by decide) (fun c1 => ?_) (fun c1 => ?_)
  · skip
    have c1 := b2i_1 c1
    refine lv_iload_n hx hb dX7_fact_11 rfl (lv_at hl 2 rfl) ?_
    by_cases k2 : w = 0
    · skip
      refine lv_tableIn (x := w) (tgt := 56) hx hb dX7_fact_12 (by rw [k2]; decide) (by rw [k2]; decide) (by rw [k2]; rfl) (by decide) ?_
      refine lv_aload_n hx hb dX7_fact_56 rfl (lv_at hl 0 rfl) ?_
      refine kget hC.1 hK hP 0 rfl rfl in_7 5 (by decide) (gw_in m_110 rfl) rfl dX7_fact_57 ?_
      refine lv_iload_n hx hb dX7_fact_60 rfl (lv_at hl 1 rfl) ?_
      refine kald (v := r (9 + cl i)) hC.1 hK hP 3 rfl (yNut_in c1 hw.n6) rfl dX7_fact_61 ?_
      exact ret_roi hx hb hr hlk (by first | (simp [yFact, Int32.not_le, Int32.not_lt, c1, k2]; done) | (clear hx hb hr hlk hnm hml hown hts hC hl; simp_all [yFact, Int32.not_le, Int32.not_lt])) dX7_fact_62
    by_cases k3 : w = 1
    · skip
      refine lv_tableIn (x := w) (tgt := 63) hx hb dX7_fact_12 (by rw [k3]; decide) (by rw [k3]; decide) (by rw [k3]; rfl) (by decide) ?_
      refine lv_aload_n hx hb dX7_fact_63 rfl (lv_at hl 0 rfl) ?_
      refine kget hC.1 hK hP 0 rfl rfl in_7 6 (by decide) (gw_in m_112 rfl) rfl dX7_fact_64 ?_
      refine lv_iload_n hx hb dX7_fact_67 rfl (lv_at hl 1 rfl) ?_
      refine kald (v := r (15 + cl i)) hC.1 hK hP 4 rfl (yNut_in c1 hw.n6) rfl dX7_fact_68 ?_
      exact ret_roi hx hb hr hlk (by first | (simp [yFact, Int32.not_le, Int32.not_lt, c1, k3]; done) | (clear hx hb hr hlk hnm hml hown hts hC hl; simp_all [yFact, Int32.not_le, Int32.not_lt])) dX7_fact_69
    by_cases k4 : w = 2
    · skip
      refine lv_tableIn (x := w) (tgt := 70) hx hb dX7_fact_12 (by rw [k4]; decide) (by rw [k4]; decide) (by rw [k4]; rfl) (by decide) ?_
      refine lv_aload_n hx hb dX7_fact_70 rfl (lv_at hl 0 rfl) ?_
      refine kget hC.1 hK hP 0 rfl rfl in_7 7 (by decide) (gw_in m_113 rfl) rfl dX7_fact_71 ?_
      refine lv_iload_n hx hb dX7_fact_74 rfl (lv_at hl 1 rfl) ?_
      refine kald (v := r (21 + cl i)) hC.1 hK hP 5 rfl (yNut_in c1 hw.n6) rfl dX7_fact_75 ?_
      exact ret_roi hx hb hr hlk (by first | (simp [yFact, Int32.not_le, Int32.not_lt, c1, k4]; done) | (clear hx hb hr hlk hnm hml hown hts hC hl; simp_all [yFact, Int32.not_le, Int32.not_lt])) dX7_fact_76
    by_cases k5 : w = 3
    · skip
      refine lv_tableIn (x := w) (tgt := 77) hx hb dX7_fact_12 (by rw [k5]; decide) (by rw [k5]; decide) (by rw [k5]; rfl) (by decide) ?_
      refine lv_aload_n hx hb dX7_fact_77 rfl (lv_at hl 0 rfl) ?_
      refine kget hC.1 hK hP 0 rfl rfl in_7 8 (by decide) (gw_in m_114 rfl) rfl dX7_fact_78 ?_
      refine lv_iload_n hx hb dX7_fact_81 rfl (lv_at hl 1 rfl) ?_
      refine kald (v := r (27 + cl i)) hC.1 hK hP 6 rfl (yNut_in c1 hw.n6) rfl dX7_fact_82 ?_
      exact ret_roi hx hb hr hlk (by first | (simp [yFact, Int32.not_le, Int32.not_lt, c1, k5]; done) | (clear hx hb hr hlk hnm hml hown hts hC hl; simp_all [yFact, Int32.not_le, Int32.not_lt])) dX7_fact_83
    by_cases k6 : w = 4
    · skip
      refine lv_tableIn (x := w) (tgt := 84) hx hb dX7_fact_12 (by rw [k6]; decide) (by rw [k6]; decide) (by rw [k6]; rfl) (by decide) ?_
      refine lv_aload_n hx hb dX7_fact_84 rfl (lv_at hl 0 rfl) ?_
      refine kget hC.1 hK hP 0 rfl rfl in_7 9 (by decide) (gw_in m_115 rfl) rfl dX7_fact_85 ?_
      refine lv_iload_n hx hb dX7_fact_88 rfl (lv_at hl 1 rfl) ?_
      refine kald (v := r (33 + cl i)) hC.1 hK hP 7 rfl (yNut_in c1 hw.n6) rfl dX7_fact_89 ?_
      exact ret_roi hx hb hr hlk (by first | (simp [yFact, Int32.not_le, Int32.not_lt, c1, k6]; done) | (clear hx hb hr hlk hnm hml hown hts hC hl; simp_all [yFact, Int32.not_le, Int32.not_lt])) dX7_fact_90
    by_cases k7 : w = 5
    · skip
      refine lv_tableIn (x := w) (tgt := 91) hx hb dX7_fact_12 (by rw [k7]; decide) (by rw [k7]; decide) (by rw [k7]; rfl) (by decide) ?_
      refine lv_aload_n hx hb dX7_fact_91 rfl (lv_at hl 0 rfl) ?_
      refine kget hC.1 hK hP 0 rfl rfl in_7 10 (by decide) (gw_in m_117 rfl) rfl dX7_fact_92 ?_
      refine lv_iload_n hx hb dX7_fact_95 rfl (lv_at hl 1 rfl) ?_
      refine kald (v := r (39 + cl i)) hC.1 hK hP 8 rfl (yNut_in c1 hw.n6) rfl dX7_fact_96 ?_
      exact ret_roi hx hb hr hlk (by first | (simp [yFact, Int32.not_le, Int32.not_lt, c1, k7]; done) | (clear hx hb hr hlk hnm hml hown hts hC hl; simp_all [yFact, Int32.not_le, Int32.not_lt])) dX7_fact_97
    by_cases k8 : w = 6
    · skip
      refine lv_tableIn (x := w) (tgt := 98) hx hb dX7_fact_12 (by rw [k8]; decide) (by rw [k8]; decide) (by rw [k8]; rfl) (by decide) ?_
      refine lv_aload_n hx hb dX7_fact_98 rfl (lv_at hl 0 rfl) ?_
      refine lv_iload_n hx hb dX7_fact_99 rfl (lv_at hl 1 rfl) ?_
      refine ro_i (run_V (As := [.int (i)]) (rest := []) hC.1 ckX7_nextForce (kX7_nextForce l g a r i hw) (gw_in m_514 rfl) (fb_ro _ _ _) (va_recv hK.1 hP (q0 := 0) rfl rfl) (fun U hU hW => ⟨by rw [hU]; exact hP, kK_warm hW hK⟩) ⟨rfl, rfl, Nat.le_of_ble_eq_true rfl, Nat.le_of_ble_eq_true rfl⟩ rfl hl.1 rfl (Nat.le_of_ble_eq_true rfl) dX7_fact_100 ⟨Nat.le_of_ble_eq_true rfl, Nat.le_of_ble_eq_true rfl⟩) ?_
      exact ret_roi hx hb hr hlk (by first | (simp [yFact, Int32.not_le, Int32.not_lt, c1, k8]; done) | (clear hx hb hr hlk hnm hml hown hts hC hl; simp_all [yFact, Int32.not_le, Int32.not_lt])) dX7_fact_103
    refine lv_tableOut (tgt := 104) hx hb dX7_fact_12 (sw_out0_6 k2 k3 k4 k5 k6 k7 k8) (by decide) ?_
    refine lv_aload_n hx hb dX7_fact_104 rfl (lv_at hl 0 rfl) ?_
    refine lv_iload_n hx hb dX7_fact_105 rfl (lv_at hl 1 rfl) ?_
    refine ro_i (run_V (As := [.int (i)]) (rest := []) hC.1 ckX7_canStrikeBits (kX7_canStrikeBits l g a r i hw) (gw_in m_593 rfl) (fb_ro _ _ _) (va_recv hK.1 hP (q0 := 0) rfl rfl) (fun U hU hW => ⟨by rw [hU]; exact hP, kK_warm hW hK⟩) ⟨rfl, rfl, Nat.le_of_ble_eq_true rfl, Nat.le_of_ble_eq_true rfl⟩ rfl hl.1 rfl (Nat.le_of_ble_eq_true rfl) dX7_fact_106 ⟨Nat.le_of_ble_eq_true rfl, Nat.le_of_ble_eq_true rfl⟩) ?_
    exact ret_roi hx hb hr hlk (by first | (simp [yFact, Int32.not_le, Int32.not_lt, c1, k2, k3, k4, k5, k6, k7, k8]; done) | (clear hx hb hr hlk hnm hml hown hts hC hl; simp_all [yFact, Int32.not_le, Int32.not_lt])) dX7_fact_109
  · skip
    have c1 := b2i_0 c1
    refine lv_bipush (v := -2) hx hb dX7_fact_8 rfl ?_
    exact ret_roi hx hb hr hlk (by first | (simp [yFact, Int32.not_le, Int32.not_lt, c1]; done) | (clear hx hb hr hlk hnm hml hown hts hC hl; simp_all [yFact, Int32.not_le, Int32.not_lt])) dX7_fact_10
set_option maxHeartbeats 4000000 in
set_option maxRecDepth 100000 in
theorem kX7_sumOf (l : Launch) (g : gG) (a : Nat → Nat) (r : Nat → Int32) (w : Int32) (hw : Wf r) : Met l yX7_sumOf (.code yX7_sumOf cX7_sumOf 4 (some .int) :: gw) (rmN 4) (va_Pc [.ref (a 0), .int (w)] (roPre g (yW g a r))) (vp_Si (fun v => v = (sumN (fun j => yFact r (nI j) w) (cl (r 2))))) 0 0 (fun _ => False) := by
  refine met_start (by decide) (Nat.le_of_ble_eq_true rfl) ?_
  intro pp ee ss mm bl mt cd hC hpre ls hl
  obtain ⟨⟨hx, hb, hml, hown, hts⟩, hr, hlk, hnm⟩ := id hC
  have hl : lv_has ls 4 [(0, .ref (a 0)), (1, .int (w))] := hl
  obtain ⟨hP, hK⟩ := hpre
  refine lv_iconst (v := 0) hx hb dX7_sumOf_0 rfl ?_
  refine lv_istore_n (lv' := [(2, .int (0)), (0, .ref (a 0)), (1, .int (w))]) hx hb dX7_sumOf_1 rfl hl (by decide) rfl (fun ls hl => ?_)
  refine lv_iconst (v := 0) hx hb dX7_sumOf_2 rfl ?_
  refine lv_istore_n (lv' := [(3, .int (0)), (2, .int (0)), (0, .ref (a 0)), (1, .int (w))]) hx hb dX7_sumOf_3 rfl hl (by decide) rfl (fun ls hl => ?_)
  have cut4 : ∀ kk : Nat, ∀ (n : Nat), 7 - n < kk → (hn : (n : Int) ≤ (r 2).toInt) → ∀ (ls : Array Slot), lv_has ls 4 [(0, .ref (a 0)), (1, .int (w)), (2, .int (sumN (fun j => yFact r (nI j) w) n)), (3, .int (nI n))] → W pp l ee (rmN 4) ss mm ([.ref (a 0), .int (w)] : List Value).toArray bl mt cd ss.heap [] 0 0 (MQ bl (vp_Si (fun v => v = (sumN (fun j => yFact r (nI j) w) (cl (r 2))))) ([.ref (a 0), .int (w)] : List Value).toArray ss 0 0 (fun _ => False)) (F0 mm 4 ls []) := by
    intro kk
    induction kk with
    | zero => intro n hmu; exact absurd hmu (Nat.not_lt_zero _)
    | succ kk ih4 =>
      intro n hmu hn ls hl
      refine lv_iload_n hx hb dX7_sumOf_4 rfl (lv_at hl 3 rfl) ?_
      refine lv_aload_n hx hb dX7_sumOf_5 rfl (lv_at hl 0 rfl) ?_
      refine kget hC.1 hK hP 0 rfl rfl in_7 1 (by decide) (gw_in m_102 rfl) rfl dX7_sumOf_6 ?_
      refine lv_icmp_ge (tgt := 27) hx hb dX7_sumOf_9 (by decide) (fun c1 => ?_) (fun c1 => ?_)
      · skip
        have c1' := Int32.not_lt.mpr c1
        have hge := lp_ge (by have := hw.n6; omega) c1
        have hend : cl (r 2) = n := by have := cl_ti (i := r 2) hw.2.2.1.1; omega
        refine lv_iload_n hx hb dX7_sumOf_27 rfl (lv_at hl 2 rfl) ?_
        exact ret_roi hx hb hr hlk (by rw [hend]) dX7_sumOf_28
      · skip
        have c1' := Int32.not_le.mp c1
        have hlt := lp_lt (by have := hw.n6; omega) c1
        have hni := nut_nI hlt
        refine lv_iload_n hx hb dX7_sumOf_12 rfl (lv_at hl 2 rfl) ?_
        refine lv_aload_n hx hb dX7_sumOf_13 rfl (lv_at hl 0 rfl) ?_
        refine lv_iload_n hx hb dX7_sumOf_14 rfl (lv_at hl 3 rfl) ?_
        refine lv_iload_n hx hb dX7_sumOf_15 rfl (lv_at hl 1 rfl) ?_
        refine ro_i (run_V (As := [.int (nI n), .int (w)]) (rest := [.int (sumN (fun j => yFact r (nI j) w) n)]) hC.1 ckX7_fact (kX7_fact l g a r (nI n) w hw) (gw_in m_935 rfl) (fb_ro _ _ _) (va_recv hK.1 hP (q0 := 0) rfl rfl) (fun U hU hW => ⟨by rw [hU]; exact hP, kK_warm hW hK⟩) ⟨rfl, rfl, Nat.le_of_ble_eq_true rfl, Nat.le_of_ble_eq_true rfl⟩ rfl hl.1 rfl (Nat.le_of_ble_eq_true rfl) dX7_sumOf_16 ⟨Nat.le_of_ble_eq_true rfl, Nat.le_of_ble_eq_true rfl⟩) ?_
        refine lv_iadd hx hb dX7_sumOf_19 ?_
        refine top_i (x := (sumN (fun j => yFact r (nI j) w) n) + (yFact r (nI n) w)) (y := sumN (fun j => yFact r (nI j) w) (n + 1)) rfl ?_
        refine lv_istore_n (lv' := [(2, .int (sumN (fun j => yFact r (nI j) w) (n + 1))), (0, .ref (a 0)), (1, .int (w)), (3, .int (nI n))]) hx hb dX7_sumOf_20 rfl hl (by decide) rfl (fun ls hl => ?_)
        refine lv_iinc (v := nI (n + 1)) (lv' := [(3, .int (nI (n + 1))), (2, .int (sumN (fun j => yFact r (nI j) w) (n + 1))), (0, .ref (a 0)), (1, .int (w))]) hx hb dX7_sumOf_21 hl (k := 3) rfl (inc_nI n) (by decide) rfl (fun ls hl => ?_)
        refine lv_goto (tgt := 4) hx hb dX7_sumOf_24 (by decide) ?_
        exact ih4 (n + 1) (by have := hw.n6; omega) (by omega) _ (lv_sub hl [2, 3, 1, 0] rfl)
  exact cut4 _ 0 (Nat.lt_succ_self _) (by have := hw.2.2.1.1; exact this) _ (lv_sub hl [2, 3, 1, 0] rfl)
set_option maxHeartbeats 4000000 in
set_option maxRecDepth 100000 in
theorem kX7_playerFact (l : Launch) (g : gG) (a : Nat → Nat) (r : Nat → Int32) (q w : Int32) (hw : Wf r) : Met l yX7_playerFact (.code yX7_playerFact cX7_playerFact 6 (some .int) :: gw) (rmN 3) (va_Pc [.ref (a 0), .int (q), .int (w)] (roPre g (yW g a r))) (vp_Si (fun v => v = (yPF r q w))) 0 0 (fun _ => False) := by
  refine met_start (by decide) (Nat.le_of_ble_eq_true rfl) ?_
  intro pp ee ss mm bl mt cd hC hpre ls hl
  obtain ⟨⟨hx, hb, hml, hown, hts⟩, hr, hlk, hnm⟩ := id hC
  have hl : lv_has ls 6 [(0, .ref (a 0)), (1, .int (q)), (2, .int (w))] := hl
  obtain ⟨hP, hK⟩ := hpre
  refine lv_aload_n hx hb dX7_playerFact_0 rfl (lv_at hl 0 rfl) ?_
  refine lv_iload_n hx hb dX7_playerFact_1 rfl (lv_at hl 1 rfl) ?_
  refine ro_i (run_V (As := [.int (q)]) (rest := []) hC.1 ckX7_isPlayer (kX7_isPlayer l g a r q) (gw_in m_518 rfl) (fb_ro _ _ _) (va_recv hK.1 hP (q0 := 0) rfl rfl) (fun U hU hW => ⟨by rw [hU]; exact hP, kK_warm hW hK⟩) ⟨rfl, rfl, Nat.le_of_ble_eq_true rfl, Nat.le_of_ble_eq_true rfl⟩ rfl hl.1 rfl (Nat.le_of_ble_eq_true rfl) dX7_playerFact_2 ⟨Nat.le_of_ble_eq_true rfl, Nat.le_of_ble_eq_true rfl⟩) ?_
  refine lv_if_ne (tgt := 11) hx hb dX7_playerFact_5 (by decide) (fun c1 => ?_) (fun c1 => ?_)
  · skip
    have c1 := b2i_1 c1
    refine lv_iload_n hx hb dX7_playerFact_11 rfl (lv_at hl 2 rfl) ?_
    refine lv_if_ne (tgt := 22) hx hb dX7_playerFact_12 (by decide) (fun c2 => ?_) (fun c2 => ?_)
    · skip
      refine lv_iload_n hx hb dX7_playerFact_22 rfl (lv_at hl 2 rfl) ?_
      refine lv_iconst (v := 1) hx hb dX7_playerFact_23 rfl ?_
      refine lv_icmp_ne (tgt := 34) hx hb dX7_playerFact_24 (by decide) (fun c3 => ?_) (fun c3 => ?_)
      · skip
        refine lv_iconst (v := 0) hx hb dX7_playerFact_34 rfl ?_
        refine lv_istore_n (lv' := [(3, .int (0)), (0, .ref (a 0)), (1, .int (q)), (2, .int (w))]) hx hb dX7_playerFact_35 rfl hl (by decide) rfl (fun ls hl => ?_)
        refine lv_iconst (v := 0) hx hb dX7_playerFact_36 rfl ?_
        refine lv_istore (lv' := [(4, .int (0)), (3, .int (0)), (0, .ref (a 0)), (1, .int (q)), (2, .int (w))]) hx hb dX7_playerFact_37 hl (by decide) rfl (fun ls hl => ?_)
        refine lv_iconst (v := 0) hx hb dX7_playerFact_39 rfl ?_
        refine lv_istore (lv' := [(5, .int (0)), (4, .int (0)), (3, .int (0)), (0, .ref (a 0)), (1, .int (q)), (2, .int (w))]) hx hb dX7_playerFact_40 hl (by decide) rfl (fun ls hl => ?_)
        have cut42 : ∀ kk : Nat, ∀ (n : Nat), 7 - n < kk → (hn : (n : Int) ≤ (r 2).toInt) → ∀ (ls : Array Slot), lv_has ls 6 [(0, .ref (a 0)), (1, .int (q)), (2, .int (w)), (3, .int (setB (fun j => yWof r (nI j) q) n)), (4, .int (sumI (fun j => yWof r (nI j) q) (fun j => r (39 + j)) n)), (5, .int (nI n))] → W pp l ee (rmN 3) ss mm ([.ref (a 0), .int (q), .int (w)] : List Value).toArray bl mt cd ss.heap [] 0 0 (MQ bl (vp_Si (fun v => v = (yPF r q w))) ([.ref (a 0), .int (q), .int (w)] : List Value).toArray ss 0 0 (fun _ => False)) (F0 mm 42 ls []) := by
          intro kk
          induction kk with
          | zero => intro n hmu; exact absurd hmu (Nat.not_lt_zero _)
          | succ kk ih42 =>
            intro n hmu hn ls hl
            refine lv_iload hx hb dX7_playerFact_42 (lv_at hl 5 rfl) ?_
            refine lv_aload_n hx hb dX7_playerFact_44 rfl (lv_at hl 0 rfl) ?_
            refine kget hC.1 hK hP 0 rfl rfl in_7 1 (by decide) (gw_in m_102 rfl) rfl dX7_playerFact_45 ?_
            refine lv_icmp_ge (tgt := 89) hx hb dX7_playerFact_48 (by decide) (fun c4 => ?_) (fun c4 => ?_)
            · skip
              have c4' := Int32.not_lt.mpr c4
              have hge := lp_ge (by have := hw.n6; omega) c4
              have hend : cl (r 2) = n := by have := cl_ti (i := r 2) hw.2.2.1.1; omega
              refine lv_iload_n hx hb dX7_playerFact_89 rfl (lv_at hl 2 rfl) ?_
              refine lv_iconst (v := 2) hx hb dX7_playerFact_90 rfl ?_
              refine lv_icmp_ne (tgt := 98) hx hb dX7_playerFact_91 (by decide) (fun c5 => ?_) (fun c5 => ?_)
              · skip
                refine lv_iload hx hb dX7_playerFact_98 (lv_at hl 4 rfl) ?_
                exact ret_roi hx hb hr hlk (by first | (simp [yPF, c1, c2, c3, c4, c4', c5]; done) | (rw [← hend]; simp [yPF, c1, c2, c3, c4, c4', c5]; done) | (simp [yPF, hend, c1, c2, c3, c4, c4', c5]; done)) dX7_playerFact_100
              · skip
                refine lv_iload_n hx hb dX7_playerFact_94 rfl (lv_at hl 3 rfl) ?_
                refine lv_goto (tgt := 100) hx hb dX7_playerFact_95 (by decide) ?_
                exact ret_roi hx hb hr hlk (by first | (simp [yPF, c1, c2, c3, c4, c4', c5]; done) | (rw [← hend]; simp [yPF, c1, c2, c3, c4, c4', c5]; done) | (simp [yPF, hend, c1, c2, c3, c4, c4', c5]; done)) dX7_playerFact_100
            · skip
              have c4' := Int32.not_le.mp c4
              have hlt := lp_lt (by have := hw.n6; omega) c4
              have hni := nut_nI hlt
              refine lv_aload_n hx hb dX7_playerFact_51 rfl (lv_at hl 0 rfl) ?_
              refine lv_iload hx hb dX7_playerFact_52 (lv_at hl 5 rfl) ?_
              refine lv_iload_n hx hb dX7_playerFact_54 rfl (lv_at hl 1 rfl) ?_
              refine ro_i (run_V (As := [.int (nI n), .int (q)]) (rest := []) hC.1 ckX7_isWholeOf (kX7_isWholeOf l g a r (nI n) q hw.n6) (gw_in m_631 rfl) (fb_ro _ _ _) (va_recv hK.1 hP (q0 := 0) rfl rfl) (fun U hU hW => ⟨by rw [hU]; exact hP, kK_warm hW hK⟩) ⟨rfl, rfl, Nat.le_of_ble_eq_true rfl, Nat.le_of_ble_eq_true rfl⟩ rfl hl.1 rfl (Nat.le_of_ble_eq_true rfl) dX7_playerFact_55 ⟨Nat.le_of_ble_eq_true rfl, Nat.le_of_ble_eq_true rfl⟩) ?_
              refine lv_if_ne (tgt := 64) hx hb dX7_playerFact_58 (by decide) (fun c6 => ?_) (fun c6 => ?_)
              · skip
                have c6 := b2i_1 c6
                refine lv_iload_n hx hb dX7_playerFact_64 rfl (lv_at hl 3 rfl) ?_
                refine lv_iconst (v := 1) hx hb dX7_playerFact_65 rfl ?_
                refine lv_iload hx hb dX7_playerFact_66 (lv_at hl 5 rfl) ?_
                refine lv_ishl hx hb dX7_playerFact_68 ?_
                refine lv_ior hx hb dX7_playerFact_69 ?_
                refine top_i (x := (setB (fun j => yWof r (nI j) q) n) ||| (1 <<< ((nI n) &&& 31))) (y := setB (fun j => yWof r (nI j) q) (n + 1)) (setB_t (p := (fun j => yWof r (nI j) q)) c6) ?_
                refine lv_istore_n (lv' := [(3, .int (setB (fun j => yWof r (nI j) q) (n + 1))), (0, .ref (a 0)), (1, .int (q)), (2, .int (w)), (4, .int (sumI (fun j => yWof r (nI j) q) (fun j => r (39 + j)) n)), (5, .int (nI n))]) hx hb dX7_playerFact_70 rfl hl (by decide) rfl (fun ls hl => ?_)
                refine lv_iload hx hb dX7_playerFact_71 (lv_at hl 4 rfl) ?_
                refine lv_aload_n hx hb dX7_playerFact_73 rfl (lv_at hl 1 rfl) ?_
                refine kget hC.1 hK hP 0 rfl rfl in_7 10 (by decide) (gw_in m_117 rfl) rfl dX7_playerFact_74 ?_
                refine lv_iload hx hb dX7_playerFact_77 (lv_at hl 5 rfl) ?_
                refine kald (v := r (39 + n)) hC.1 hK hP 8 rfl (yWof_in c6 hw.n6) (by show r (39 + cl (nI n)) = _; rw [cl_nI (by have := hw.n6; omega)]) dX7_playerFact_79 ?_
                refine lv_iadd hx hb dX7_playerFact_80 ?_
                refine top_i (x := (sumI (fun j => yWof r (nI j) q) (fun j => r (39 + j)) n) + (r (39 + n))) (y := sumI (fun j => yWof r (nI j) q) (fun j => r (39 + j)) (n + 1)) (sumI_t (p := (fun j => yWof r (nI j) q)) c6) ?_
                refine lv_istore (lv' := [(4, .int (sumI (fun j => yWof r (nI j) q) (fun j => r (39 + j)) (n + 1))), (3, .int (setB (fun j => yWof r (nI j) q) (n + 1))), (0, .ref (a 0)), (1, .int (q)), (2, .int (w)), (5, .int (nI n))]) hx hb dX7_playerFact_81 hl (by decide) rfl (fun ls hl => ?_)
                refine lv_iinc (v := nI (n + 1)) (lv' := [(5, .int (nI (n + 1))), (4, .int (sumI (fun j => yWof r (nI j) q) (fun j => r (39 + j)) (n + 1))), (3, .int (setB (fun j => yWof r (nI j) q) (n + 1))), (0, .ref (a 0)), (1, .int (q)), (2, .int (w))]) hx hb dX7_playerFact_83 hl (k := 5) rfl (inc_nI n) (by decide) rfl (fun ls hl => ?_)
                refine lv_goto (tgt := 42) hx hb dX7_playerFact_86 (by decide) ?_
                exact ih42 (n + 1) (by have := hw.n6; omega) (by omega) _ (lv_sub hl [3, 4, 5, 2, 1, 0] rfl)
              · skip
                have c6 := b2i_0 c6
                refine lv_goto (tgt := 83) hx hb dX7_playerFact_61 (by decide) ?_
                refine lv_iinc (v := nI (n + 1)) (lv' := [(5, .int (nI (n + 1))), (0, .ref (a 0)), (1, .int (q)), (2, .int (w)), (3, .int (setB (fun j => yWof r (nI j) q) n)), (4, .int (sumI (fun j => yWof r (nI j) q) (fun j => r (39 + j)) n))]) hx hb dX7_playerFact_83 hl (k := 5) rfl (inc_nI n) (by decide) rfl (fun ls hl => ?_)
                refine lv_goto (tgt := 42) hx hb dX7_playerFact_86 (by decide) ?_
                rw [setB_f (p := (fun j => yWof r (nI j) q)) c6, sumI_f (p := (fun j => yWof r (nI j) q)) c6] at hl
                exact ih42 (n + 1) (by have := hw.n6; omega) (by omega) _ (lv_sub hl [1, 2, 3, 4, 5, 0] rfl)
        exact cut42 _ 0 (Nat.lt_succ_self _) (by have := hw.2.2.1.1; exact this) _ (lv_sub hl [3, 4, 5, 2, 1, 0] rfl)
      · skip
        refine lv_aload_n hx hb dX7_playerFact_27 rfl (lv_at hl 0 rfl) ?_
        refine kget hC.1 hK hP 0 rfl rfl in_7 4 (by decide) (gw_in m_109 rfl) rfl dX7_playerFact_28 ?_
        refine lv_iload_n hx hb dX7_playerFact_31 rfl (lv_at hl 1 rfl) ?_
        refine kald (v := r (6 + cl q)) hC.1 hK hP 2 rfl (yPl_in c1 hw.n3) rfl dX7_playerFact_32 ?_
        exact ret_roi hx hb hr hlk (by first | (simp [yPF, c1, c2, c3]; done) | (rw [← hend]; simp [yPF, c1, c2, c3]; done) | (simp [yPF, hend, c1, c2, c3]; done)) dX7_playerFact_33
    · skip
      refine lv_aload_n hx hb dX7_playerFact_15 rfl (lv_at hl 0 rfl) ?_
      refine kget hC.1 hK hP 0 rfl rfl in_7 3 (by decide) (gw_in m_108 rfl) rfl dX7_playerFact_16 ?_
      refine lv_iload_n hx hb dX7_playerFact_19 rfl (lv_at hl 1 rfl) ?_
      refine kald (v := r (3 + cl q)) hC.1 hK hP 1 rfl (yPl_in c1 hw.n3) rfl dX7_playerFact_20 ?_
      exact ret_roi hx hb hr hlk (by first | (simp [yPF, c1, c2]; done) | (rw [← hend]; simp [yPF, c1, c2]; done) | (simp [yPF, hend, c1, c2]; done)) dX7_playerFact_21
  · skip
    have c1 := b2i_0 c1
    refine lv_bipush (v := -2) hx hb dX7_playerFact_8 rfl ?_
    exact ret_roi hx hb hr hlk (by first | (simp [yPF, c1]; done) | (rw [← hend]; simp [yPF, c1]; done) | (simp [yPF, hend, c1]; done)) dX7_playerFact_10
set_option maxHeartbeats 4000000 in
set_option maxRecDepth 100000 in
theorem kX7_copyChangesOf (l : Launch) (g : gG) (a b : Nat → Nat) (r q : Nat → Int32)  : Met l yX7_copyChangesOf (.code yX7_copyChangesOf cX7_copyChangesOf 2 none :: gw) (rmN 1) (va_Pc [.ref (a 0), .ref (b 0)] (rwPre g (yW g a r ++ (yW g b q ++ [])))) (rwQv g (yW g a r ++ (yW g b q ++ [])) (yW g a (chg r q) ++ (yW g b q ++ []))) 0 0 (dm (yW g a r ++ (yW g b q ++ []))) := by
  refine met_start (by decide) (Nat.le_of_ble_eq_true rfl) ?_
  intro pp ee ss mm bl mt cd hC hpre ls hl
  obtain ⟨⟨hx, hb, hml, hown, hts⟩, hr, hlk, hnm⟩ := id hC
  have hl : lv_has ls 2 [(0, .ref (a 0)), (1, .ref (b 0))] := hl
  obtain ⟨hP, hK, hD⟩ := hpre
  have hS : va_S (dm (yW g a r ++ (yW g b q ++ []))) ss.heap ss.heap [] := va_S.rf
  have hD := vD_self hD
  have hP : kP g (yV g a (r 1) (r 2) (r 0) (fun j => r (3 + j)) (fun j => r (6 + j)) (fun j => r (9 + j)) (fun j => r (15 + j)) (fun j => r (21 + j)) (fun j => r (27 + j)) (fun j => r (33 + j)) (fun j => r (39 + j)) ++ (yW g b q ++ [])) _ := hP
  have hD : va_D _ (yV g a (r 1) (r 2) (r 0) (fun j => r (3 + j)) (fun j => r (6 + j)) (fun j => r (9 + j)) (fun j => r (15 + j)) (fun j => r (21 + j)) (fun j => r (27 + j)) (fun j => r (33 + j)) (fun j => r (39 + j)) ++ (yW g b q ++ [])) := hD
  refine lv_aload_n hx hb dX7_copyChangesOf_0 rfl (lv_at hl 0 rfl) ?_
  refine lv_aload_n hx hb dX7_copyChangesOf_1 rfl (lv_at hl 1 rfl) ?_
  refine kget hC.1 hK (kP_app.mp (kP_app.mp hP).2).1 0 rfl rfl in_7 2 (by decide) (gw_in m_105 rfl) rfl dX7_copyChangesOf_2 ?_
  refine kput (B' := yV g a (r 1) (r 2) (q 0) (fun j => r (3 + j)) (fun j => r (6 + j)) (fun j => r (9 + j)) (fun j => r (15 + j)) (fun j => r (21 + j)) (fun j => r (27 + j)) (fun j => r (33 + j)) (fun j => r (39 + j))) hC.1 hK hP hD hS 0 rfl rfl in_7 tyX7 tyX7_ok nmX7 2 (by decide) (gw_in m_105 rfl) rfl (ty := .int) (by decide +kernel) rfl rfl (Nat.le_of_ble_eq_true rfl) (fun _ h => h) yV_adr dX7_copyChangesOf_5 (fun H locs hP hD hS => ?_)
  refine lv_aload_n hx hb dX7_copyChangesOf_8 rfl (lv_at hl 1 rfl) ?_
  refine kget hC.1 hK (kP_app.mp (kP_app.mp hP).2).1 0 rfl rfl in_7 9 (by decide) (gw_in m_115 rfl) rfl dX7_copyChangesOf_9 ?_
  refine lv_iconst (v := 0) hx hb dX7_copyChangesOf_12 rfl ?_
  refine lv_aload_n hx hb dX7_copyChangesOf_13 rfl (lv_at hl 0 rfl) ?_
  refine kget hC.1 hK (kP_app.mp hP).1 0 rfl rfl in_7 9 (by decide) (gw_in m_115 rfl) rfl dX7_copyChangesOf_14 ?_
  refine lv_iconst (v := 0) hx hb dX7_copyChangesOf_17 rfl ?_
  refine lv_bipush (v := 6) hx hb dX7_copyChangesOf_18 rfl ?_
  refine kcpy (B' := yV g a (r 1) (r 2) (q 0) (fun j => r (3 + j)) (fun j => r (6 + j)) (fun j => r (9 + j)) (fun j => r (15 + j)) (fun j => r (21 + j)) (fun j => r (27 + j)) (va_cpy (fun j => q (33 + j)) (fun j => r (33 + j)) (cl 0) (cl 0) (cl 6)) (fun j => r (39 + j))) hC.1 (hml.trans hl.1.symm) hK hP hD hS 16 7 (app_get2 (k := 7) rfl rfl) rfl (hts _ (gw_in m_557 rfl)) (hts _ (gw_in m_559 rfl)) (hts _ (gw_in m_558 rfl)) (hts _ (gw_in m_77 rfl)) (by decide) (by decide) (by decide) (by decide) (by decide) (fun _ h => h) yV_adr (Nat.le_of_ble_eq_true rfl) (Nat.le_of_ble_eq_true rfl) dX7_copyChangesOf_20 (fun H locs hP hD hS => ?_)
  refine lv_aload_n hx hb dX7_copyChangesOf_23 rfl (lv_at hl 1 rfl) ?_
  refine kget hC.1 hK (kP_app.mp (kP_app.mp hP).2).1 0 rfl rfl in_7 10 (by decide) (gw_in m_117 rfl) rfl dX7_copyChangesOf_24 ?_
  refine lv_iconst (v := 0) hx hb dX7_copyChangesOf_27 rfl ?_
  refine lv_aload_n hx hb dX7_copyChangesOf_28 rfl (lv_at hl 0 rfl) ?_
  refine kget hC.1 hK (kP_app.mp hP).1 0 rfl rfl in_7 10 (by decide) (gw_in m_117 rfl) rfl dX7_copyChangesOf_29 ?_
  refine lv_iconst (v := 0) hx hb dX7_copyChangesOf_32 rfl ?_
  refine lv_bipush (v := 6) hx hb dX7_copyChangesOf_33 rfl ?_
  refine kcpy (B' := yV g a (r 1) (r 2) (q 0) (fun j => r (3 + j)) (fun j => r (6 + j)) (fun j => r (9 + j)) (fun j => r (15 + j)) (fun j => r (21 + j)) (fun j => r (27 + j)) (va_cpy (fun j => q (33 + j)) (fun j => r (33 + j)) (cl 0) (cl 0) (cl 6)) (va_cpy (fun j => q (39 + j)) (fun j => r (39 + j)) (cl 0) (cl 0) (cl 6))) hC.1 (hml.trans hl.1.symm) hK hP hD hS 17 8 (app_get2 (k := 8) rfl rfl) rfl (hts _ (gw_in m_557 rfl)) (hts _ (gw_in m_559 rfl)) (hts _ (gw_in m_558 rfl)) (hts _ (gw_in m_77 rfl)) (by decide) (by decide) (by decide) (by decide) (by decide) (fun _ h => h) yV_adr (Nat.le_of_ble_eq_true rfl) (Nat.le_of_ble_eq_true rfl) dX7_copyChangesOf_35 (fun H locs hP hD hS => ?_)
  exact ret_rwv hx hb hr hlk (by exact kP_new (yV_to chg_1 chg_2 chg_0 (fun j hj => (chg_lo (by omega) (by omega)).symm) (fun j hj => (chg_lo (by omega) (by omega)).symm) (fun j hj => (chg_lo (by omega) (by omega)).symm) (fun j hj => (chg_lo (by omega) (by omega)).symm) (fun j hj => (chg_lo (by omega) (by omega)).symm) (fun j hj => (chg_lo (by omega) (by omega)).symm) (fun j hj => (cpy_all (n := 6) hj).trans (chg_hi (by omega)).symm) (fun j hj => (cpy_all (n := 6) hj).trans (chg_hi (by omega)).symm)) hP) hS dX7_copyChangesOf_38
set_option maxHeartbeats 4000000 in
set_option maxRecDepth 100000 in
theorem kX7_copyOf (l : Launch) (g : gG) (a b : Nat → Nat) (r q : Nat → Int32)  : Met l yX7_copyOf (.code yX7_copyOf cX7_copyOf 2 none :: gw) (rmN 2) (va_Pc [.ref (a 0), .ref (b 0)] (rwPre g (yW g a r ++ (yW g b q ++ [])))) (rwQv g (yW g a r ++ (yW g b q ++ [])) (yW g a q ++ (yW g b q ++ []))) 0 0 (dm (yW g a r ++ (yW g b q ++ []))) := by
  refine met_start (by decide) (Nat.le_of_ble_eq_true rfl) ?_
  intro pp ee ss mm bl mt cd hC hpre ls hl
  obtain ⟨⟨hx, hb, hml, hown, hts⟩, hr, hlk, hnm⟩ := id hC
  have hl : lv_has ls 2 [(0, .ref (a 0)), (1, .ref (b 0))] := hl
  obtain ⟨hP, hK, hD⟩ := hpre
  have hS : va_S (dm (yW g a r ++ (yW g b q ++ []))) ss.heap ss.heap [] := va_S.rf
  have hD := vD_self hD
  have hP : kP g (yV g a (r 1) (r 2) (r 0) (fun j => r (3 + j)) (fun j => r (6 + j)) (fun j => r (9 + j)) (fun j => r (15 + j)) (fun j => r (21 + j)) (fun j => r (27 + j)) (fun j => r (33 + j)) (fun j => r (39 + j)) ++ (yW g b q ++ [])) _ := hP
  have hD : va_D _ (yV g a (r 1) (r 2) (r 0) (fun j => r (3 + j)) (fun j => r (6 + j)) (fun j => r (9 + j)) (fun j => r (15 + j)) (fun j => r (21 + j)) (fun j => r (27 + j)) (fun j => r (33 + j)) (fun j => r (39 + j)) ++ (yW g b q ++ [])) := hD
  refine lv_aload_n hx hb dX7_copyOf_0 rfl (lv_at hl 0 rfl) ?_
  refine lv_aload_n hx hb dX7_copyOf_1 rfl (lv_at hl 1 rfl) ?_
  refine kget hC.1 hK (kP_app.mp (kP_app.mp hP).2).1 0 rfl rfl in_7 0 (by decide) (gw_in m_99 rfl) rfl dX7_copyOf_2 ?_
  refine kput (B' := yV g a (q 1) (r 2) (r 0) (fun j => r (3 + j)) (fun j => r (6 + j)) (fun j => r (9 + j)) (fun j => r (15 + j)) (fun j => r (21 + j)) (fun j => r (27 + j)) (fun j => r (33 + j)) (fun j => r (39 + j))) hC.1 hK hP hD hS 0 rfl rfl in_7 tyX7 tyX7_ok nmX7 0 (by decide) (gw_in m_99 rfl) rfl (ty := .int) (by decide +kernel) rfl rfl (Nat.le_of_ble_eq_true rfl) (fun _ h => h) yV_adr dX7_copyOf_5 (fun H locs hP hD hS => ?_)
  refine lv_aload_n hx hb dX7_copyOf_8 rfl (lv_at hl 0 rfl) ?_
  refine lv_aload_n hx hb dX7_copyOf_9 rfl (lv_at hl 1 rfl) ?_
  refine kget hC.1 hK (kP_app.mp (kP_app.mp hP).2).1 0 rfl rfl in_7 1 (by decide) (gw_in m_102 rfl) rfl dX7_copyOf_10 ?_
  refine kput (B' := yV g a (q 1) (q 2) (r 0) (fun j => r (3 + j)) (fun j => r (6 + j)) (fun j => r (9 + j)) (fun j => r (15 + j)) (fun j => r (21 + j)) (fun j => r (27 + j)) (fun j => r (33 + j)) (fun j => r (39 + j))) hC.1 hK hP hD hS 0 rfl rfl in_7 tyX7 tyX7_ok nmX7 1 (by decide) (gw_in m_102 rfl) rfl (ty := .int) (by decide +kernel) rfl rfl (Nat.le_of_ble_eq_true rfl) (fun _ h => h) yV_adr dX7_copyOf_13 (fun H locs hP hD hS => ?_)
  refine lv_aload_n hx hb dX7_copyOf_16 rfl (lv_at hl 1 rfl) ?_
  refine kget hC.1 hK (kP_app.mp (kP_app.mp hP).2).1 0 rfl rfl in_7 3 (by decide) (gw_in m_108 rfl) rfl dX7_copyOf_17 ?_
  refine lv_iconst (v := 0) hx hb dX7_copyOf_20 rfl ?_
  refine lv_aload_n hx hb dX7_copyOf_21 rfl (lv_at hl 0 rfl) ?_
  refine kget hC.1 hK (kP_app.mp hP).1 0 rfl rfl in_7 3 (by decide) (gw_in m_108 rfl) rfl dX7_copyOf_22 ?_
  refine lv_iconst (v := 0) hx hb dX7_copyOf_25 rfl ?_
  refine lv_iconst (v := 3) hx hb dX7_copyOf_26 rfl ?_
  refine kcpy (B' := yV g a (q 1) (q 2) (r 0) (va_cpy (fun j => q (3 + j)) (fun j => r (3 + j)) (cl 0) (cl 0) (cl 3)) (fun j => r (6 + j)) (fun j => r (9 + j)) (fun j => r (15 + j)) (fun j => r (21 + j)) (fun j => r (27 + j)) (fun j => r (33 + j)) (fun j => r (39 + j))) hC.1 (hml.trans hl.1.symm) hK hP hD hS 10 1 (app_get2 (k := 1) rfl rfl) rfl (hts _ (gw_in m_557 rfl)) (hts _ (gw_in m_559 rfl)) (hts _ (gw_in m_558 rfl)) (hts _ (gw_in m_77 rfl)) (by decide) (by decide) (by decide) (by decide) (by decide) (fun _ h => h) yV_adr (Nat.le_of_ble_eq_true rfl) (Nat.le_of_ble_eq_true rfl) dX7_copyOf_27 (fun H locs hP hD hS => ?_)
  refine lv_aload_n hx hb dX7_copyOf_30 rfl (lv_at hl 1 rfl) ?_
  refine kget hC.1 hK (kP_app.mp (kP_app.mp hP).2).1 0 rfl rfl in_7 4 (by decide) (gw_in m_109 rfl) rfl dX7_copyOf_31 ?_
  refine lv_iconst (v := 0) hx hb dX7_copyOf_34 rfl ?_
  refine lv_aload_n hx hb dX7_copyOf_35 rfl (lv_at hl 0 rfl) ?_
  refine kget hC.1 hK (kP_app.mp hP).1 0 rfl rfl in_7 4 (by decide) (gw_in m_109 rfl) rfl dX7_copyOf_36 ?_
  refine lv_iconst (v := 0) hx hb dX7_copyOf_39 rfl ?_
  refine lv_iconst (v := 3) hx hb dX7_copyOf_40 rfl ?_
  refine kcpy (B' := yV g a (q 1) (q 2) (r 0) (va_cpy (fun j => q (3 + j)) (fun j => r (3 + j)) (cl 0) (cl 0) (cl 3)) (va_cpy (fun j => q (6 + j)) (fun j => r (6 + j)) (cl 0) (cl 0) (cl 3)) (fun j => r (9 + j)) (fun j => r (15 + j)) (fun j => r (21 + j)) (fun j => r (27 + j)) (fun j => r (33 + j)) (fun j => r (39 + j))) hC.1 (hml.trans hl.1.symm) hK hP hD hS 11 2 (app_get2 (k := 2) rfl rfl) rfl (hts _ (gw_in m_557 rfl)) (hts _ (gw_in m_559 rfl)) (hts _ (gw_in m_558 rfl)) (hts _ (gw_in m_77 rfl)) (by decide) (by decide) (by decide) (by decide) (by decide) (fun _ h => h) yV_adr (Nat.le_of_ble_eq_true rfl) (Nat.le_of_ble_eq_true rfl) dX7_copyOf_41 (fun H locs hP hD hS => ?_)
  refine lv_aload_n hx hb dX7_copyOf_44 rfl (lv_at hl 1 rfl) ?_
  refine kget hC.1 hK (kP_app.mp (kP_app.mp hP).2).1 0 rfl rfl in_7 5 (by decide) (gw_in m_110 rfl) rfl dX7_copyOf_45 ?_
  refine lv_iconst (v := 0) hx hb dX7_copyOf_48 rfl ?_
  refine lv_aload_n hx hb dX7_copyOf_49 rfl (lv_at hl 0 rfl) ?_
  refine kget hC.1 hK (kP_app.mp hP).1 0 rfl rfl in_7 5 (by decide) (gw_in m_110 rfl) rfl dX7_copyOf_50 ?_
  refine lv_iconst (v := 0) hx hb dX7_copyOf_53 rfl ?_
  refine lv_bipush (v := 6) hx hb dX7_copyOf_54 rfl ?_
  refine kcpy (B' := yV g a (q 1) (q 2) (r 0) (va_cpy (fun j => q (3 + j)) (fun j => r (3 + j)) (cl 0) (cl 0) (cl 3)) (va_cpy (fun j => q (6 + j)) (fun j => r (6 + j)) (cl 0) (cl 0) (cl 3)) (va_cpy (fun j => q (9 + j)) (fun j => r (9 + j)) (cl 0) (cl 0) (cl 6)) (fun j => r (15 + j)) (fun j => r (21 + j)) (fun j => r (27 + j)) (fun j => r (33 + j)) (fun j => r (39 + j))) hC.1 (hml.trans hl.1.symm) hK hP hD hS 12 3 (app_get2 (k := 3) rfl rfl) rfl (hts _ (gw_in m_557 rfl)) (hts _ (gw_in m_559 rfl)) (hts _ (gw_in m_558 rfl)) (hts _ (gw_in m_77 rfl)) (by decide) (by decide) (by decide) (by decide) (by decide) (fun _ h => h) yV_adr (Nat.le_of_ble_eq_true rfl) (Nat.le_of_ble_eq_true rfl) dX7_copyOf_56 (fun H locs hP hD hS => ?_)
  refine lv_aload_n hx hb dX7_copyOf_59 rfl (lv_at hl 1 rfl) ?_
  refine kget hC.1 hK (kP_app.mp (kP_app.mp hP).2).1 0 rfl rfl in_7 6 (by decide) (gw_in m_112 rfl) rfl dX7_copyOf_60 ?_
  refine lv_iconst (v := 0) hx hb dX7_copyOf_63 rfl ?_
  refine lv_aload_n hx hb dX7_copyOf_64 rfl (lv_at hl 0 rfl) ?_
  refine kget hC.1 hK (kP_app.mp hP).1 0 rfl rfl in_7 6 (by decide) (gw_in m_112 rfl) rfl dX7_copyOf_65 ?_
  refine lv_iconst (v := 0) hx hb dX7_copyOf_68 rfl ?_
  refine lv_bipush (v := 6) hx hb dX7_copyOf_69 rfl ?_
  refine kcpy (B' := yV g a (q 1) (q 2) (r 0) (va_cpy (fun j => q (3 + j)) (fun j => r (3 + j)) (cl 0) (cl 0) (cl 3)) (va_cpy (fun j => q (6 + j)) (fun j => r (6 + j)) (cl 0) (cl 0) (cl 3)) (va_cpy (fun j => q (9 + j)) (fun j => r (9 + j)) (cl 0) (cl 0) (cl 6)) (va_cpy (fun j => q (15 + j)) (fun j => r (15 + j)) (cl 0) (cl 0) (cl 6)) (fun j => r (21 + j)) (fun j => r (27 + j)) (fun j => r (33 + j)) (fun j => r (39 + j))) hC.1 (hml.trans hl.1.symm) hK hP hD hS 13 4 (app_get2 (k := 4) rfl rfl) rfl (hts _ (gw_in m_557 rfl)) (hts _ (gw_in m_559 rfl)) (hts _ (gw_in m_558 rfl)) (hts _ (gw_in m_77 rfl)) (by decide) (by decide) (by decide) (by decide) (by decide) (fun _ h => h) yV_adr (Nat.le_of_ble_eq_true rfl) (Nat.le_of_ble_eq_true rfl) dX7_copyOf_71 (fun H locs hP hD hS => ?_)
  refine lv_aload_n hx hb dX7_copyOf_74 rfl (lv_at hl 1 rfl) ?_
  refine kget hC.1 hK (kP_app.mp (kP_app.mp hP).2).1 0 rfl rfl in_7 7 (by decide) (gw_in m_113 rfl) rfl dX7_copyOf_75 ?_
  refine lv_iconst (v := 0) hx hb dX7_copyOf_78 rfl ?_
  refine lv_aload_n hx hb dX7_copyOf_79 rfl (lv_at hl 0 rfl) ?_
  refine kget hC.1 hK (kP_app.mp hP).1 0 rfl rfl in_7 7 (by decide) (gw_in m_113 rfl) rfl dX7_copyOf_80 ?_
  refine lv_iconst (v := 0) hx hb dX7_copyOf_83 rfl ?_
  refine lv_bipush (v := 6) hx hb dX7_copyOf_84 rfl ?_
  refine kcpy (B' := yV g a (q 1) (q 2) (r 0) (va_cpy (fun j => q (3 + j)) (fun j => r (3 + j)) (cl 0) (cl 0) (cl 3)) (va_cpy (fun j => q (6 + j)) (fun j => r (6 + j)) (cl 0) (cl 0) (cl 3)) (va_cpy (fun j => q (9 + j)) (fun j => r (9 + j)) (cl 0) (cl 0) (cl 6)) (va_cpy (fun j => q (15 + j)) (fun j => r (15 + j)) (cl 0) (cl 0) (cl 6)) (va_cpy (fun j => q (21 + j)) (fun j => r (21 + j)) (cl 0) (cl 0) (cl 6)) (fun j => r (27 + j)) (fun j => r (33 + j)) (fun j => r (39 + j))) hC.1 (hml.trans hl.1.symm) hK hP hD hS 14 5 (app_get2 (k := 5) rfl rfl) rfl (hts _ (gw_in m_557 rfl)) (hts _ (gw_in m_559 rfl)) (hts _ (gw_in m_558 rfl)) (hts _ (gw_in m_77 rfl)) (by decide) (by decide) (by decide) (by decide) (by decide) (fun _ h => h) yV_adr (Nat.le_of_ble_eq_true rfl) (Nat.le_of_ble_eq_true rfl) dX7_copyOf_86 (fun H locs hP hD hS => ?_)
  refine lv_aload_n hx hb dX7_copyOf_89 rfl (lv_at hl 1 rfl) ?_
  refine kget hC.1 hK (kP_app.mp (kP_app.mp hP).2).1 0 rfl rfl in_7 8 (by decide) (gw_in m_114 rfl) rfl dX7_copyOf_90 ?_
  refine lv_iconst (v := 0) hx hb dX7_copyOf_93 rfl ?_
  refine lv_aload_n hx hb dX7_copyOf_94 rfl (lv_at hl 0 rfl) ?_
  refine kget hC.1 hK (kP_app.mp hP).1 0 rfl rfl in_7 8 (by decide) (gw_in m_114 rfl) rfl dX7_copyOf_95 ?_
  refine lv_iconst (v := 0) hx hb dX7_copyOf_98 rfl ?_
  refine lv_bipush (v := 6) hx hb dX7_copyOf_99 rfl ?_
  refine kcpy (B' := yV g a (q 1) (q 2) (r 0) (va_cpy (fun j => q (3 + j)) (fun j => r (3 + j)) (cl 0) (cl 0) (cl 3)) (va_cpy (fun j => q (6 + j)) (fun j => r (6 + j)) (cl 0) (cl 0) (cl 3)) (va_cpy (fun j => q (9 + j)) (fun j => r (9 + j)) (cl 0) (cl 0) (cl 6)) (va_cpy (fun j => q (15 + j)) (fun j => r (15 + j)) (cl 0) (cl 0) (cl 6)) (va_cpy (fun j => q (21 + j)) (fun j => r (21 + j)) (cl 0) (cl 0) (cl 6)) (va_cpy (fun j => q (27 + j)) (fun j => r (27 + j)) (cl 0) (cl 0) (cl 6)) (fun j => r (33 + j)) (fun j => r (39 + j))) hC.1 (hml.trans hl.1.symm) hK hP hD hS 15 6 (app_get2 (k := 6) rfl rfl) rfl (hts _ (gw_in m_557 rfl)) (hts _ (gw_in m_559 rfl)) (hts _ (gw_in m_558 rfl)) (hts _ (gw_in m_77 rfl)) (by decide) (by decide) (by decide) (by decide) (by decide) (fun _ h => h) yV_adr (Nat.le_of_ble_eq_true rfl) (Nat.le_of_ble_eq_true rfl) dX7_copyOf_101 (fun H locs hP hD hS => ?_)
  have hP : kP g (yW g a (mid r q) ++ (yW g b q ++ [])) _ := kP_new (yV_to (mid_lo (by omega)).symm (mid_lo (by omega)).symm (mid_hi (by omega)).symm (fun j hj => (cpy_all (n := 3) hj).trans (mid_lo (by omega)).symm) (fun j hj => (cpy_all (n := 3) hj).trans (mid_lo (by omega)).symm) (fun j hj => (cpy_all (n := 6) hj).trans (mid_lo (by omega)).symm) (fun j hj => (cpy_all (n := 6) hj).trans (mid_lo (by omega)).symm) (fun j hj => (cpy_all (n := 6) hj).trans (mid_lo (by omega)).symm) (fun j hj => (cpy_all (n := 6) hj).trans (mid_lo (by omega)).symm) (fun j hj => (mid_hi (by omega)).symm) (fun j hj => (mid_hi (by omega)).symm)) hP
  have hD : va_D _ (yW g a (mid r q) ++ (yW g b q ++ [])) := vD_adr (adr_app yVW_adr rfl) hD
  refine lv_aload_n hx hb dX7_copyOf_104 rfl (lv_at hl 0 rfl) ?_
  refine lv_aload_n hx hb dX7_copyOf_105 rfl (lv_at hl 1 rfl) ?_
  refine rw_v (run_V (As := [.ref (b 0)]) (rest := []) hC.1 ckX7_copyChangesOf (kX7_copyChangesOf l g a b (mid r q) q) (gw_in m_560 rfl) (fb_rw _ _ _) (va_recv hK.1 (kP_app.mp hP).1 (q0 := 0) rfl rfl) (fun U hU hW => ⟨by rw [hU]; exact (kP_app.mpr ⟨(kP_app.mp hP).1, (kP_app.mpr ⟨(kP_app.mp (kP_app.mp hP).2).1, kP_nil⟩)⟩), kK_warm hW hK, vD_sub (sbA _ (sbA _ (sb0 _))) hD⟩) ⟨rfl, rfl, Nat.le_of_ble_eq_true rfl, Nat.le_of_ble_eq_true rfl⟩ rfl hl.1 rfl (Nat.le_of_ble_eq_true rfl) dX7_copyOf_106 ⟨Nat.le_of_ble_eq_true rfl, Nat.le_of_ble_eq_true rfl⟩) (adr_app yW_adr (adr_app rfl rfl)) (asc2 _ _ _) (ww' := yW g a (chg (mid r q) q) ++ (yW g b q ++ [])) (asc2 _ _ _) hP hD hS (fun H locs hP hD hS => ?_)
  rw [show (chg (mid r q) q) = q from chg_mid] at hP hD
  exact ret_rwv hx hb hr hlk (hP) hS dX7_copyOf_109
set_option maxHeartbeats 4000000 in
set_option maxRecDepth 100000 in
theorem kX7_ranksAhead (l : Launch) (g : gG) (a : Nat → Nat) (r : Nat → Int32) (i j : Int32) (hw : Wf r) : Met l yX7_ranksAhead (.code yX7_ranksAhead cX7_ranksAhead 3 (some .boolean) :: gw) (rmN 2) (va_Pc [.ref (a 0), .int (i), .int (j)] (roPre g (yW g a r))) (vp_Si (fun v => v = (b2i (yAhead r i j)))) 0 0 (fun _ => False) := by
  refine met_start (by decide) (Nat.le_of_ble_eq_true rfl) ?_
  intro pp ee ss mm bl mt cd hC hpre ls hl
  obtain ⟨⟨hx, hb, hml, hown, hts⟩, hr, hlk, hnm⟩ := id hC
  have hl : lv_has ls 3 [(0, .ref (a 0)), (1, .int (i)), (2, .int (j))] := hl
  obtain ⟨hP, hK⟩ := hpre
  refine lv_aload_n hx hb dX7_ranksAhead_0 rfl (lv_at hl 0 rfl) ?_
  refine lv_iload_n hx hb dX7_ranksAhead_1 rfl (lv_at hl 1 rfl) ?_
  refine ro_i (run_V (As := [.int (i)]) (rest := []) hC.1 ckX7_isNut (kX7_isNut l g a r i) (gw_in m_502 rfl) (fb_ro _ _ _) (va_recv hK.1 hP (q0 := 0) rfl rfl) (fun U hU hW => ⟨by rw [hU]; exact hP, kK_warm hW hK⟩) ⟨rfl, rfl, Nat.le_of_ble_eq_true rfl, Nat.le_of_ble_eq_true rfl⟩ rfl hl.1 rfl (Nat.le_of_ble_eq_true rfl) dX7_ranksAhead_2 ⟨Nat.le_of_ble_eq_true rfl, Nat.le_of_ble_eq_true rfl⟩) ?_
  refine lv_if_eq (tgt := 16) hx hb dX7_ranksAhead_5 (by decide) (fun c1 => ?_) (fun c1 => ?_)
  · skip
    have c1 := b2i_0 c1
    refine lv_iconst (v := 0) hx hb dX7_ranksAhead_16 rfl ?_
    exact ret_roz hx hb hr hlk rfl (by first | (simp [yAhead, b2i_inj, c1]; done) | (simp [yAhead, b2i_inj, c1]; simp [b2i]; done)) dX7_ranksAhead_17
  · skip
    have c1 := b2i_1 c1
    refine lv_aload_n hx hb dX7_ranksAhead_8 rfl (lv_at hl 0 rfl) ?_
    refine lv_iload_n hx hb dX7_ranksAhead_9 rfl (lv_at hl 2 rfl) ?_
    refine ro_i (run_V (As := [.int (j)]) (rest := []) hC.1 ckX7_isNut (kX7_isNut l g a r j) (gw_in m_502 rfl) (fb_ro _ _ _) (va_recv hK.1 hP (q0 := 0) rfl rfl) (fun U hU hW => ⟨by rw [hU]; exact hP, kK_warm hW hK⟩) ⟨rfl, rfl, Nat.le_of_ble_eq_true rfl, Nat.le_of_ble_eq_true rfl⟩ rfl hl.1 rfl (Nat.le_of_ble_eq_true rfl) dX7_ranksAhead_10 ⟨Nat.le_of_ble_eq_true rfl, Nat.le_of_ble_eq_true rfl⟩) ?_
    refine lv_if_ne (tgt := 18) hx hb dX7_ranksAhead_13 (by decide) (fun c2 => ?_) (fun c2 => ?_)
    · skip
      have c2 := b2i_1 c2
      refine lv_aload_n hx hb dX7_ranksAhead_18 rfl (lv_at hl 0 rfl) ?_
      refine lv_iload_n hx hb dX7_ranksAhead_19 rfl (lv_at hl 1 rfl) ?_
      refine ro_i (run_V (As := [.int (i)]) (rest := []) hC.1 ckX7_isBroken (kX7_isBroken l g a r i hw.n6) (gw_in m_542 rfl) (fb_ro _ _ _) (va_recv hK.1 hP (q0 := 0) rfl rfl) (fun U hU hW => ⟨by rw [hU]; exact hP, kK_warm hW hK⟩) ⟨rfl, rfl, Nat.le_of_ble_eq_true rfl, Nat.le_of_ble_eq_true rfl⟩ rfl hl.1 rfl (Nat.le_of_ble_eq_true rfl) dX7_ranksAhead_20 ⟨Nat.le_of_ble_eq_true rfl, Nat.le_of_ble_eq_true rfl⟩) ?_
      refine lv_aload_n hx hb dX7_ranksAhead_23 rfl (lv_at hl 0 rfl) ?_
      refine lv_iload_n hx hb dX7_ranksAhead_24 rfl (lv_at hl 2 rfl) ?_
      refine ro_i (run_V (As := [.int (j)]) (rest := [.int (b2i (yBrk r i))]) hC.1 ckX7_isBroken (kX7_isBroken l g a r j hw.n6) (gw_in m_542 rfl) (fb_ro _ _ _) (va_recv hK.1 hP (q0 := 0) rfl rfl) (fun U hU hW => ⟨by rw [hU]; exact hP, kK_warm hW hK⟩) ⟨rfl, rfl, Nat.le_of_ble_eq_true rfl, Nat.le_of_ble_eq_true rfl⟩ rfl hl.1 rfl (Nat.le_of_ble_eq_true rfl) dX7_ranksAhead_25 ⟨Nat.le_of_ble_eq_true rfl, Nat.le_of_ble_eq_true rfl⟩) ?_
      refine lv_icmp_eq (tgt := 37) hx hb dX7_ranksAhead_28 (by decide) (fun c3 => ?_) (fun c3 => ?_)
      · skip
        have c3 := b2i_inj.mp c3
        refine lv_aload_n hx hb dX7_ranksAhead_37 rfl (lv_at hl 0 rfl) ?_
        refine kget hC.1 hK hP 0 rfl rfl in_7 10 (by decide) (gw_in m_117 rfl) rfl dX7_ranksAhead_38 ?_
        refine lv_iload_n hx hb dX7_ranksAhead_41 rfl (lv_at hl 1 rfl) ?_
        refine kald (v := r (39 + cl i)) hC.1 hK hP 8 rfl (yNut_in c1 hw.n6) rfl dX7_ranksAhead_42 ?_
        refine lv_aload_n hx hb dX7_ranksAhead_43 rfl (lv_at hl 0 rfl) ?_
        refine kget hC.1 hK hP 0 rfl rfl in_7 10 (by decide) (gw_in m_117 rfl) rfl dX7_ranksAhead_44 ?_
        refine lv_iload_n hx hb dX7_ranksAhead_47 rfl (lv_at hl 2 rfl) ?_
        refine kald (v := r (39 + cl j)) hC.1 hK hP 8 rfl (yNut_in c2 hw.n6) rfl dX7_ranksAhead_48 ?_
        refine lv_icmp_eq (tgt := 75) hx hb dX7_ranksAhead_49 (by decide) (fun c4 => ?_) (fun c4 => ?_)
        · skip
          refine lv_iload_n hx hb dX7_ranksAhead_75 rfl (lv_at hl 1 rfl) ?_
          refine lv_iload_n hx hb dX7_ranksAhead_76 rfl (lv_at hl 2 rfl) ?_
          refine lv_icmp_ge (tgt := 84) hx hb dX7_ranksAhead_77 (by decide) (fun c5 => ?_) (fun c5 => ?_)
          · skip
            have c5' := Int32.not_lt.mpr c5
            refine lv_iconst (v := 0) hx hb dX7_ranksAhead_84 rfl ?_
            exact ret_roz hx hb hr hlk rfl (by first | (simp [yAhead, b2i_inj, c1, c2, c3, c4, c5, c5']; done) | (simp [yAhead, b2i_inj, c1, c2, c3, c4, c5, c5']; simp [b2i]; done)) dX7_ranksAhead_85
          · skip
            have c5' := Int32.not_le.mp c5
            refine lv_iconst (v := 1) hx hb dX7_ranksAhead_80 rfl ?_
            refine lv_goto (tgt := 85) hx hb dX7_ranksAhead_81 (by decide) ?_
            exact ret_roz hx hb hr hlk rfl (by first | (simp [yAhead, b2i_inj, c1, c2, c3, c4, c5, c5']; done) | (simp [yAhead, b2i_inj, c1, c2, c3, c4, c5, c5']; simp [b2i]; done)) dX7_ranksAhead_85
        · skip
          refine lv_aload_n hx hb dX7_ranksAhead_52 rfl (lv_at hl 0 rfl) ?_
          refine kget hC.1 hK hP 0 rfl rfl in_7 10 (by decide) (gw_in m_117 rfl) rfl dX7_ranksAhead_53 ?_
          refine lv_iload_n hx hb dX7_ranksAhead_56 rfl (lv_at hl 1 rfl) ?_
          refine kald (v := r (39 + cl i)) hC.1 hK hP 8 rfl (yNut_in c1 hw.n6) rfl dX7_ranksAhead_57 ?_
          refine lv_aload_n hx hb dX7_ranksAhead_58 rfl (lv_at hl 0 rfl) ?_
          refine kget hC.1 hK hP 0 rfl rfl in_7 10 (by decide) (gw_in m_117 rfl) rfl dX7_ranksAhead_59 ?_
          refine lv_iload_n hx hb dX7_ranksAhead_62 rfl (lv_at hl 2 rfl) ?_
          refine kald (v := r (39 + cl j)) hC.1 hK hP 8 rfl (yNut_in c2 hw.n6) rfl dX7_ranksAhead_63 ?_
          refine lv_icmp_le (tgt := 71) hx hb dX7_ranksAhead_64 (by decide) (fun c6 => ?_) (fun c6 => ?_)
          · skip
            have c6' := Int32.not_lt.mpr c6
            refine lv_iconst (v := 0) hx hb dX7_ranksAhead_71 rfl ?_
            refine lv_goto (tgt := 85) hx hb dX7_ranksAhead_72 (by decide) ?_
            exact ret_roz hx hb hr hlk rfl (by first | (simp [yAhead, b2i_inj, c1, c2, c3, c4, c6, c6']; done) | (simp [yAhead, b2i_inj, c1, c2, c3, c4, c6, c6']; simp [b2i]; done)) dX7_ranksAhead_85
          · skip
            have c6' := Int32.not_le.mp c6
            refine lv_iconst (v := 1) hx hb dX7_ranksAhead_67 rfl ?_
            refine lv_goto (tgt := 85) hx hb dX7_ranksAhead_68 (by decide) ?_
            exact ret_roz hx hb hr hlk rfl (by first | (simp [yAhead, b2i_inj, c1, c2, c3, c4, c6, c6']; done) | (simp [yAhead, b2i_inj, c1, c2, c3, c4, c6, c6']; simp [b2i]; done)) dX7_ranksAhead_85
      · skip
        have c3 : ¬ yBrk r i = yBrk r j := fun h => c3 (b2i_inj.mpr h)
        refine lv_aload_n hx hb dX7_ranksAhead_31 rfl (lv_at hl 0 rfl) ?_
        refine lv_iload_n hx hb dX7_ranksAhead_32 rfl (lv_at hl 2 rfl) ?_
        refine ro_i (run_V (As := [.int (j)]) (rest := []) hC.1 ckX7_isBroken (kX7_isBroken l g a r j hw.n6) (gw_in m_542 rfl) (fb_ro _ _ _) (va_recv hK.1 hP (q0 := 0) rfl rfl) (fun U hU hW => ⟨by rw [hU]; exact hP, kK_warm hW hK⟩) ⟨rfl, rfl, Nat.le_of_ble_eq_true rfl, Nat.le_of_ble_eq_true rfl⟩ rfl hl.1 rfl (Nat.le_of_ble_eq_true rfl) dX7_ranksAhead_33 ⟨Nat.le_of_ble_eq_true rfl, Nat.le_of_ble_eq_true rfl⟩) ?_
        exact ret_roz hx hb hr hlk rfl (by first | (simp [yAhead, b2i_inj, c1, c2, c3]; done) | (simp [yAhead, b2i_inj, c1, c2, c3]; simp [b2i]; done)) dX7_ranksAhead_36
    · skip
      have c2 := b2i_0 c2
      refine lv_iconst (v := 0) hx hb dX7_ranksAhead_16 rfl ?_
      exact ret_roz hx hb hr hlk rfl (by first | (simp [yAhead, b2i_inj, c1, c2]; done) | (simp [yAhead, b2i_inj, c1, c2]; simp [b2i]; done)) dX7_ranksAhead_17
set_option maxHeartbeats 4000000 in
set_option maxRecDepth 100000 in
theorem kX7_ranked (l : Launch) (g : gG) (a : Nat → Nat) (r : Nat → Int32) (k : Int32) (hw : Wf r) : Met l yX7_ranked (.code yX7_ranked cX7_ranked 5 (some .int) :: gw) (rmN 3) (va_Pc [.ref (a 0), .int (k)] (roPre g (yW g a r))) (vp_Si (fun v => v = (fstN (fun n => decide (cntB (fun z => yAhead r (nI z) (nI n)) (cl (r 2)) = k)) (cl (r 2))))) 0 0 (fun _ => False) := by
  refine met_start (by decide) (Nat.le_of_ble_eq_true rfl) ?_
  intro pp ee ss mm bl mt cd hC hpre ls hl
  obtain ⟨⟨hx, hb, hml, hown, hts⟩, hr, hlk, hnm⟩ := id hC
  have hl : lv_has ls 5 [(0, .ref (a 0)), (1, .int (k))] := hl
  obtain ⟨hP, hK⟩ := hpre
  refine lv_iconst (v := 0) hx hb dX7_ranked_0 rfl ?_
  refine lv_istore_n (lv' := [(2, .int (0)), (0, .ref (a 0)), (1, .int (k))]) hx hb dX7_ranked_1 rfl hl (by decide) rfl (fun ls hl => ?_)
  have cut2 : ∀ kk : Nat, ∀ (n : Nat), 7 - n < kk → (hn : (n : Int) ≤ (r 2).toInt) → (hno : ∀ j, j < n → (fun n => decide (cntB (fun z => yAhead r (nI z) (nI n)) (cl (r 2)) = k)) j = false) → ∀ (ls : Array Slot), lv_has ls 5 [(0, .ref (a 0)), (1, .int (k)), (2, .int (nI n))] → W pp l ee (rmN 3) ss mm ([.ref (a 0), .int (k)] : List Value).toArray bl mt cd ss.heap [] 0 0 (MQ bl (vp_Si (fun v => v = (fstN (fun n => decide (cntB (fun z => yAhead r (nI z) (nI n)) (cl (r 2)) = k)) (cl (r 2))))) ([.ref (a 0), .int (k)] : List Value).toArray ss 0 0 (fun _ => False)) (F0 mm 2 ls []) := by
    intro kk
    induction kk with
    | zero => intro n hmu; exact absurd hmu (Nat.not_lt_zero _)
    | succ kk ih2 =>
      intro n hmu hn hno ls hl
      refine lv_iload_n hx hb dX7_ranked_2 rfl (lv_at hl 2 rfl) ?_
      refine lv_aload_n hx hb dX7_ranked_3 rfl (lv_at hl 0 rfl) ?_
      refine kget hC.1 hK hP 0 rfl rfl in_7 1 (by decide) (gw_in m_102 rfl) rfl dX7_ranked_4 ?_
      refine lv_icmp_ge (tgt := 56) hx hb dX7_ranked_7 (by decide) (fun c1 => ?_) (fun c1 => ?_)
      · skip
        have c1' := Int32.not_lt.mpr c1
        have hge := lp_ge (by have := hw.n6; omega) c1
        have hend : cl (r 2) = n := by have := cl_ti (i := r 2) hw.2.2.1.1; omega
        refine lv_iconst (v := -1) hx hb dX7_ranked_56 rfl ?_
        exact ret_roi hx hb hr hlk (by exact (fst_none (fun j hj => hno j (by rw [hend] at hj; exact hj))).symm) dX7_ranked_57
      · skip
        have c1' := Int32.not_le.mp c1
        have hlt := lp_lt (by have := hw.n6; omega) c1
        have hni := nut_nI hlt
        refine lv_iconst (v := 0) hx hb dX7_ranked_10 rfl ?_
        refine lv_istore_n (lv' := [(3, .int (0)), (0, .ref (a 0)), (1, .int (k)), (2, .int (nI n))]) hx hb dX7_ranked_11 rfl hl (by decide) rfl (fun ls hl => ?_)
        refine lv_iconst (v := 0) hx hb dX7_ranked_12 rfl ?_
        refine lv_istore (lv' := [(4, .int (0)), (3, .int (0)), (0, .ref (a 0)), (1, .int (k)), (2, .int (nI n))]) hx hb dX7_ranked_13 hl (by decide) rfl (fun ls hl => ?_)
        have cut15 : ∀ kk : Nat, ∀ (p : Nat), 7 - p < kk → (hp : (p : Int) ≤ (r 2).toInt) → ∀ (ls : Array Slot), lv_has ls 5 [(0, .ref (a 0)), (1, .int (k)), (2, .int (nI n)), (3, .int (cntB (fun z => yAhead r (nI z) (nI n)) p)), (4, .int (nI p))] → W pp l ee (rmN 3) ss mm ([.ref (a 0), .int (k)] : List Value).toArray bl mt cd ss.heap [] 0 0 (MQ bl (vp_Si (fun v => v = (fstN (fun n => decide (cntB (fun z => yAhead r (nI z) (nI n)) (cl (r 2)) = k)) (cl (r 2))))) ([.ref (a 0), .int (k)] : List Value).toArray ss 0 0 (fun _ => False)) (F0 mm 15 ls []) := by
          intro kk
          induction kk with
          | zero => intro p hmu; exact absurd hmu (Nat.not_lt_zero _)
          | succ kk ih15 =>
            intro p hmu hp ls hl
            refine lv_iload hx hb dX7_ranked_15 (lv_at hl 4 rfl) ?_
            refine lv_aload_n hx hb dX7_ranked_17 rfl (lv_at hl 0 rfl) ?_
            refine kget hC.1 hK hP 0 rfl rfl in_7 1 (by decide) (gw_in m_102 rfl) rfl dX7_ranked_18 ?_
            refine lv_icmp_ge (tgt := 43) hx hb dX7_ranked_21 (by decide) (fun c2 => ?_) (fun c2 => ?_)
            · skip
              have c2' := Int32.not_lt.mpr c2
              have hgep := lp_ge (by have := hw.n6; omega) c2
              have hendp : p = cl (r 2) := by have := cl_ti (i := r 2) hw.2.2.1.1; omega
              subst hendp
              have hl : lv_has ls 5 [(0, .ref (a 0)), (1, .int (k)), (2, .int (nI n)), (3, .int (cntB (fun z => yAhead r (nI z) (nI n)) (cl (r 2))))] := lv_sub hl [0, 1, 2, 3] rfl
              refine lv_iload_n hx hb dX7_ranked_43 rfl (lv_at hl 3 rfl) ?_
              refine lv_iload_n hx hb dX7_ranked_44 rfl (lv_at hl 1 rfl) ?_
              refine lv_icmp_ne (tgt := 50) hx hb dX7_ranked_45 (by decide) (fun c3 => ?_) (fun c3 => ?_)
              · skip
                refine lv_iinc (v := nI (n + 1)) (lv' := [(2, .int (nI (n + 1))), (0, .ref (a 0)), (1, .int (k)), (3, .int (cntB (fun z => yAhead r (nI z) (nI n)) (cl (r 2))))]) hx hb dX7_ranked_50 hl (k := 2) rfl (inc_nI n) (by decide) rfl (fun ls hl => ?_)
                refine lv_goto (tgt := 2) hx hb dX7_ranked_53 (by decide) ?_
                exact ih2 (n + 1) (by have := hw.n6; omega) (by omega) (lt_s hno (by simpa using c3)) _ (lv_sub hl [1, 2, 0] rfl)
              · skip
                refine lv_iload_n hx hb dX7_ranked_48 rfl (lv_at hl 2 rfl) ?_
                exact ret_roi hx hb hr hlk (by exact (fst_hit (by simpa using c3) (by have := cl_ti (i := r 2) hw.2.2.1.1; omega) hno).symm) dX7_ranked_49
            · skip
              have c2' := Int32.not_le.mp c2
              have hltp := lp_lt (by have := hw.n6; omega) c2
              refine lv_aload_n hx hb dX7_ranked_24 rfl (lv_at hl 0 rfl) ?_
              refine lv_iload hx hb dX7_ranked_25 (lv_at hl 4 rfl) ?_
              refine lv_iload_n hx hb dX7_ranked_27 rfl (lv_at hl 2 rfl) ?_
              refine ro_i (run_V (As := [.int (nI p), .int (nI n)]) (rest := []) hC.1 ckX7_ranksAhead (kX7_ranksAhead l g a r (nI p) (nI n) hw) (gw_in m_669 rfl) (fb_ro _ _ _) (va_recv hK.1 hP (q0 := 0) rfl rfl) (fun U hU hW => ⟨by rw [hU]; exact hP, kK_warm hW hK⟩) ⟨rfl, rfl, Nat.le_of_ble_eq_true rfl, Nat.le_of_ble_eq_true rfl⟩ rfl hl.1 rfl (Nat.le_of_ble_eq_true rfl) dX7_ranked_28 ⟨Nat.le_of_ble_eq_true rfl, Nat.le_of_ble_eq_true rfl⟩) ?_
              refine lv_if_eq (tgt := 37) hx hb dX7_ranked_31 (by decide) (fun c4 => ?_) (fun c4 => ?_)
              · skip
                have c4 := b2i_0 c4
                refine lv_iinc (v := nI (p + 1)) (lv' := [(4, .int (nI (p + 1))), (0, .ref (a 0)), (1, .int (k)), (2, .int (nI n)), (3, .int (cntB (fun z => yAhead r (nI z) (nI n)) p))]) hx hb dX7_ranked_37 hl (k := 4) rfl (inc_nI p) (by decide) rfl (fun ls hl => ?_)
                refine lv_goto (tgt := 15) hx hb dX7_ranked_40 (by decide) ?_
                rw [cntB_f (p := (fun z => yAhead r (nI z) (nI n))) c4] at hl
                exact ih15 (p + 1) (by have := hw.n6; omega) (by omega) _ (lv_sub hl [1, 2, 3, 4, 0] rfl)
              · skip
                have c4 := b2i_1 c4
                refine lv_iinc (v := (cntB (fun z => yAhead r (nI z) (nI n)) p) + 1) (lv' := [(3, .int ((cntB (fun z => yAhead r (nI z) (nI n)) p) + 1)), (0, .ref (a 0)), (1, .int (k)), (2, .int (nI n)), (4, .int (nI p))]) hx hb dX7_ranked_34 hl (k := 3) rfl rfl (by decide) rfl (fun ls hl => ?_)
                refine lv_iinc (v := nI (p + 1)) (lv' := [(4, .int (nI (p + 1))), (3, .int ((cntB (fun z => yAhead r (nI z) (nI n)) p) + 1)), (0, .ref (a 0)), (1, .int (k)), (2, .int (nI n))]) hx hb dX7_ranked_37 hl (k := 4) rfl (inc_nI p) (by decide) rfl (fun ls hl => ?_)
                refine lv_goto (tgt := 15) hx hb dX7_ranked_40 (by decide) ?_
                rw [cntB_t (p := (fun z => yAhead r (nI z) (nI n))) c4] at hl
                exact ih15 (p + 1) (by have := hw.n6; omega) (by omega) _ (lv_sub hl [2, 3, 4, 1, 0] rfl)
        exact cut15 _ 0 (Nat.lt_succ_self _) (by have := hw.2.2.1.1; exact this) _ (lv_sub hl [2, 3, 4, 1, 0] rfl)
  exact cut2 _ 0 (Nat.lt_succ_self _) (by have := hw.2.2.1.1; exact this) (fun j h => absurd h (Nat.not_lt_zero j)) _ (lv_sub hl [1, 2, 0] rfl)
set_option maxHeartbeats 4000000 in
set_option maxRecDepth 100000 in
theorem kX7_foldInto (l : Launch) (g : gG) (a : Nat → Nat) (r : Nat → Int32) (h : Int64) (hw : Wf r) : Met l yX7_foldInto (.code yX7_foldInto cX7_foldInto 5 (some .long) :: gw) (rmN 4) (va_Pc [.ref (a 0), .long (h)] (roPre g (yW g a r))) (vp_Sl (fun v => v = (dgN r (dgP r h (cl (r 1))) (cl (r 2))))) 0 0 (fun _ => False) := by
  refine met_start (by decide) (Nat.le_of_ble_eq_true rfl) ?_
  intro pp ee ss mm bl mt cd hC hpre ls hl
  obtain ⟨⟨hx, hb, hml, hown, hts⟩, hr, hlk, hnm⟩ := id hC
  have hl : lv_has ls 5 [(0, .ref (a 0)), (1, .long (h))] := hl
  obtain ⟨hP, hK⟩ := hpre
  refine lv_iconst (v := 0) hx hb dX7_foldInto_0 rfl ?_
  refine lv_istore_n (lv' := [(3, .int (0)), (0, .ref (a 0)), (1, .long (h))]) hx hb dX7_foldInto_1 rfl hl (by decide) rfl (fun ls hl => ?_)
  have cut2 : ∀ kk : Nat, ∀ (n : Nat), 4 - n < kk → (hn : (n : Int) ≤ (r 1).toInt) → ∀ (ls : Array Slot), lv_has ls 5 [(0, .ref (a 0)), (1, .long (dgP r h n)), (3, .int (nI n))] → W pp l ee (rmN 4) ss mm ([.ref (a 0), .long (h)] : List Value).toArray bl mt cd ss.heap [] 0 0 (MQ bl (vp_Sl (fun v => v = (dgN r (dgP r h (cl (r 1))) (cl (r 2))))) ([.ref (a 0), .long (h)] : List Value).toArray ss 0 0 (fun _ => False)) (F0 mm 2 ls []) := by
    intro kk
    induction kk with
    | zero => intro n hmu; exact absurd hmu (Nat.not_lt_zero _)
    | succ kk ih2 =>
      intro n hmu hn ls hl
      refine lv_iload_n hx hb dX7_foldInto_2 rfl (lv_at hl 2 rfl) ?_
      refine lv_aload_n hx hb dX7_foldInto_3 rfl (lv_at hl 0 rfl) ?_
      refine kget hC.1 hK hP 0 rfl rfl in_7 0 (by decide) (gw_in m_99 rfl) rfl dX7_foldInto_4 ?_
      refine lv_icmp_ge (tgt := 44) hx hb dX7_foldInto_7 (by decide) (fun c1 => ?_) (fun c1 => ?_)
      · skip
        have c1' := Int32.not_lt.mpr c1
        have hge := lp_ge (by have := hw.n3; omega) c1
        have hend1 : n = cl (r 1) := by have := cl_ti (i := r 1) hw.2.1.1; omega
        subst hend1
        refine lv_iconst (v := 0) hx hb dX7_foldInto_44 rfl ?_
        refine lv_istore_n (lv' := [(3, .int (0)), (0, .ref (a 0)), (1, .long (dgP r h (cl (r 1))))]) hx hb dX7_foldInto_45 rfl hl (by decide) rfl (fun ls hl => ?_)
        have cut46 : ∀ kk : Nat, ∀ (n : Nat), 7 - n < kk → (hn : (n : Int) ≤ (r 2).toInt) → ∀ (ls : Array Slot), lv_has ls 5 [(0, .ref (a 0)), (1, .long (dgN r (dgP r h (cl (r 1))) n)), (3, .int (nI n))] → W pp l ee (rmN 4) ss mm ([.ref (a 0), .long (h)] : List Value).toArray bl mt cd ss.heap [] 0 0 (MQ bl (vp_Sl (fun v => v = (dgN r (dgP r h (cl (r 1))) (cl (r 2))))) ([.ref (a 0), .long (h)] : List Value).toArray ss 0 0 (fun _ => False)) (F0 mm 46 ls []) := by
          intro kk
          induction kk with
          | zero => intro n hmu; exact absurd hmu (Nat.not_lt_zero _)
          | succ kk ih46 =>
            intro n hmu hn ls hl
            refine lv_iload_n hx hb dX7_foldInto_46 rfl (lv_at hl 2 rfl) ?_
            refine lv_aload_n hx hb dX7_foldInto_47 rfl (lv_at hl 0 rfl) ?_
            refine kget hC.1 hK hP 0 rfl rfl in_7 1 (by decide) (gw_in m_102 rfl) rfl dX7_foldInto_48 ?_
            refine lv_icmp_ge (tgt := 90) hx hb dX7_foldInto_51 (by decide) (fun c2 => ?_) (fun c2 => ?_)
            · skip
              have c2' := Int32.not_lt.mpr c2
              have hge := lp_ge (by have := hw.n6; omega) c2
              have hend : cl (r 2) = n := by have := cl_ti (i := r 2) hw.2.2.1.1; omega
              refine lv_lload_n hx hb dX7_foldInto_90 rfl (lv_at hl 1 rfl) ?_
              exact ret_rol hx hb hr hlk (by rw [hend]) dX7_foldInto_91
            · skip
              have c2' := Int32.not_le.mp c2
              have hlt := lp_lt (by have := hw.n6; omega) c2
              have hni := nut_nI hlt
              refine lv_iconst (v := 0) hx hb dX7_foldInto_54 rfl ?_
              refine lv_istore (lv' := [(4, .int (0)), (0, .ref (a 0)), (1, .long (dgN r (dgP r h (cl (r 1))) n)), (3, .int (nI n))]) hx hb dX7_foldInto_55 hl (by decide) rfl (fun ls hl => ?_)
              have cut57 : ∀ kk : Nat, ∀ (w : Nat), 7 - w < kk → (hw6 : w ≤ 6) → ∀ (ls : Array Slot), lv_has ls 5 [(0, .ref (a 0)), (1, .long (dgK (fun z => r (9 + 6 * z + n)) (dgN r (dgP r h (cl (r 1))) n) w)), (3, .int (nI n)), (4, .int (nI w))] → W pp l ee (rmN 4) ss mm ([.ref (a 0), .long (h)] : List Value).toArray bl mt cd ss.heap [] 0 0 (MQ bl (vp_Sl (fun v => v = (dgN r (dgP r h (cl (r 1))) (cl (r 2))))) ([.ref (a 0), .long (h)] : List Value).toArray ss 0 0 (fun _ => False)) (F0 mm 57 ls []) := by
                intro kk
                induction kk with
                | zero => intro w hmu; exact absurd hmu (Nat.not_lt_zero _)
                | succ kk ih57 =>
                  intro w hmu hw6 ls hl
                  refine lv_iload hx hb dX7_foldInto_57 (lv_at hl 3 rfl) ?_
                  refine lv_iconst (v := 5) hx hb dX7_foldInto_59 rfl ?_
                  refine lv_icmp_gt (tgt := 84) hx hb dX7_foldInto_60 (by decide) (fun c3 => ?_) (fun c3 => ?_)
                  · skip
                    have c3' := Int32.not_le.mpr c3
                    have hw6e : w = 6 := by rw [Int32.lt_iff_toInt_lt, nI_ti (by omega), show (5 : Int32).toInt = 5 from rfl] at c3; omega
                    have hl : lv_has ls 5 [(0, .ref (a 0)), (1, .long (dgN r (dgP r h (cl (r 1))) (n + 1))), (3, .int (nI n))] := by subst hw6e; exact lv_sub hl [0, 1, 2] rfl
                    refine lv_iinc (v := nI (n + 1)) (lv' := [(3, .int (nI (n + 1))), (0, .ref (a 0)), (1, .long (dgN r (dgP r h (cl (r 1))) (n + 1)))]) hx hb dX7_foldInto_84 hl (k := 2) rfl (inc_nI n) (by decide) rfl (fun ls hl => ?_)
                    refine lv_goto (tgt := 46) hx hb dX7_foldInto_87 (by decide) ?_
                    exact ih46 (n + 1) (by have := hw.n6; omega) (by omega) _ (lv_sub hl [1, 2, 0] rfl)
                  · skip
                    have c3' := Int32.not_lt.mp c3
                    have hw5 : w < 6 := by rw [Int32.lt_iff_toInt_lt, nI_ti (by omega), show (5 : Int32).toInt = 5 from rfl] at c3; omega
                    refine lv_ldc2 (v := 31) hx hb hown (hts _ (gw_in m_946 rfl)) dX7_foldInto_63 ?_
                    refine lv_lload_n hx hb dX7_foldInto_66 rfl (lv_at hl 1 rfl) ?_
                    refine lv_lmul hx hb dX7_foldInto_67 ?_
                    refine lv_aload_n hx hb dX7_foldInto_68 rfl (lv_at hl 0 rfl) ?_
                    refine lv_iload_n hx hb dX7_foldInto_69 rfl (lv_at hl 2 rfl) ?_
                    refine lv_iload hx hb dX7_foldInto_70 (lv_at hl 3 rfl) ?_
                    refine ro_i (run_V (As := [.int (nI n), .int (nI w)]) (rest := [.long (31 * (dgK (fun z => r (9 + 6 * z + n)) (dgN r (dgP r h (cl (r 1))) n) w))]) hC.1 ckX7_fact (kX7_fact l g a r (nI n) (nI w) hw) (gw_in m_935 rfl) (fb_ro _ _ _) (va_recv hK.1 hP (q0 := 0) rfl rfl) (fun U hU hW => ⟨by rw [hU]; exact hP, kK_warm hW hK⟩) ⟨rfl, rfl, Nat.le_of_ble_eq_true rfl, Nat.le_of_ble_eq_true rfl⟩ rfl hl.1 rfl (Nat.le_of_ble_eq_true rfl) dX7_foldInto_72 ⟨Nat.le_of_ble_eq_true rfl, Nat.le_of_ble_eq_true rfl⟩) ?_
                    refine top_i (x := yFact r (nI n) (nI w)) (y := r (9 + 6 * w + n)) (yFact_6 hni hw5 (by have := hw.n6; omega)) ?_
                    refine lv_i2l hx hb dX7_foldInto_75 rfl ?_
                    refine lv_ladd hx hb dX7_foldInto_76 ?_
                    refine top_l (x := (31 * (dgK (fun z => r (9 + 6 * z + n)) (dgN r (dgP r h (cl (r 1))) n) w)) + ((r (9 + 6 * w + n)).toInt64)) (y := dgK (fun z => r (9 + 6 * z + n)) (dgN r (dgP r h (cl (r 1))) n) (w + 1)) rfl ?_
                    refine lv_lstore_n (lv' := [(1, .long (dgK (fun z => r (9 + 6 * z + n)) (dgN r (dgP r h (cl (r 1))) n) (w + 1))), (0, .ref (a 0)), (3, .int (nI n)), (4, .int (nI w))]) hx hb dX7_foldInto_77 rfl hl (by decide) rfl (fun ls hl => ?_)
                    refine lv_iinc (v := nI (w + 1)) (lv' := [(4, .int (nI (w + 1))), (1, .long (dgK (fun z => r (9 + 6 * z + n)) (dgN r (dgP r h (cl (r 1))) n) (w + 1))), (0, .ref (a 0)), (3, .int (nI n))]) hx hb dX7_foldInto_78 hl (k := 3) rfl (inc_nI w) (by decide) rfl (fun ls hl => ?_)
                    refine lv_goto (tgt := 57) hx hb dX7_foldInto_81 (by decide) ?_
                    exact ih57 (w + 1) (by omega) (by omega) _ (lv_sub hl [2, 1, 3, 0] rfl)
              exact cut57 _ 0 (Nat.lt_succ_self _) (by omega) _ (lv_sub hl [1, 2, 3, 0] rfl)
        exact cut46 _ 0 (Nat.lt_succ_self _) (by have := hw.2.2.1.1; exact this) _ (lv_sub hl [1, 2, 0] rfl)
      · skip
        have c1' := Int32.not_le.mp c1
        have hlt := lp_lt (by have := hw.n3; omega) c1
        refine lv_ldc2 (v := 31) hx hb hown (hts _ (gw_in m_946 rfl)) dX7_foldInto_10 ?_
        refine lv_lload_n hx hb dX7_foldInto_13 rfl (lv_at hl 1 rfl) ?_
        refine lv_lmul hx hb dX7_foldInto_14 ?_
        refine lv_aload_n hx hb dX7_foldInto_15 rfl (lv_at hl 0 rfl) ?_
        refine lv_iload_n hx hb dX7_foldInto_16 rfl (lv_at hl 2 rfl) ?_
        refine lv_iconst (v := 0) hx hb dX7_foldInto_17 rfl ?_
        refine ro_i (run_V (As := [.int (nI n), .int (0)]) (rest := [.long (31 * (dgP r h n))]) hC.1 ckX7_playerFact (kX7_playerFact l g a r (nI n) 0 hw) (gw_in m_947 rfl) (fb_ro _ _ _) (va_recv hK.1 hP (q0 := 0) rfl rfl) (fun U hU hW => ⟨by rw [hU]; exact hP, kK_warm hW hK⟩) ⟨rfl, rfl, Nat.le_of_ble_eq_true rfl, Nat.le_of_ble_eq_true rfl⟩ rfl hl.1 rfl (Nat.le_of_ble_eq_true rfl) dX7_foldInto_18 ⟨Nat.le_of_ble_eq_true rfl, Nat.le_of_ble_eq_true rfl⟩) ?_
        refine top_i (x := yPF r (nI n) 0) (y := r (3 + n)) (yPF_0 (pl_nI hlt) (by have := hw.n3; omega)) ?_
        refine lv_i2l hx hb dX7_foldInto_21 rfl ?_
        refine lv_ladd hx hb dX7_foldInto_22 ?_
        refine lv_lstore_n (lv' := [(1, .long ((31 * (dgP r h n)) + ((r (3 + n)).toInt64))), (0, .ref (a 0)), (3, .int (nI n))]) hx hb dX7_foldInto_23 rfl hl (by decide) rfl (fun ls hl => ?_)
        refine lv_ldc2 (v := 31) hx hb hown (hts _ (gw_in m_946 rfl)) dX7_foldInto_24 ?_
        refine lv_lload_n hx hb dX7_foldInto_27 rfl (lv_at hl 0 rfl) ?_
        refine lv_lmul hx hb dX7_foldInto_28 ?_
        refine lv_aload_n hx hb dX7_foldInto_29 rfl (lv_at hl 1 rfl) ?_
        refine lv_iload_n hx hb dX7_foldInto_30 rfl (lv_at hl 2 rfl) ?_
        refine lv_iconst (v := 1) hx hb dX7_foldInto_31 rfl ?_
        refine ro_i (run_V (As := [.int (nI n), .int (1)]) (rest := [.long (31 * ((31 * (dgP r h n)) + ((r (3 + n)).toInt64)))]) hC.1 ckX7_playerFact (kX7_playerFact l g a r (nI n) 1 hw) (gw_in m_947 rfl) (fb_ro _ _ _) (va_recv hK.1 hP (q0 := 0) rfl rfl) (fun U hU hW => ⟨by rw [hU]; exact hP, kK_warm hW hK⟩) ⟨rfl, rfl, Nat.le_of_ble_eq_true rfl, Nat.le_of_ble_eq_true rfl⟩ rfl hl.1 rfl (Nat.le_of_ble_eq_true rfl) dX7_foldInto_32 ⟨Nat.le_of_ble_eq_true rfl, Nat.le_of_ble_eq_true rfl⟩) ?_
        refine top_i (x := yPF r (nI n) 1) (y := r (6 + n)) (yPF_1 (pl_nI hlt) (by have := hw.n3; omega)) ?_
        refine lv_i2l hx hb dX7_foldInto_35 rfl ?_
        refine lv_ladd hx hb dX7_foldInto_36 ?_
        refine top_l (x := (31 * ((31 * (dgP r h n)) + ((r (3 + n)).toInt64))) + ((r (6 + n)).toInt64)) (y := dgP r h (n + 1)) rfl ?_
        refine lv_lstore_n (lv' := [(1, .long (dgP r h (n + 1))), (0, .ref (a 0)), (3, .int (nI n))]) hx hb dX7_foldInto_37 rfl hl (by decide) rfl (fun ls hl => ?_)
        refine lv_iinc (v := nI (n + 1)) (lv' := [(3, .int (nI (n + 1))), (1, .long (dgP r h (n + 1))), (0, .ref (a 0))]) hx hb dX7_foldInto_38 hl (k := 2) rfl (inc_nI n) (by decide) rfl (fun ls hl => ?_)
        refine lv_goto (tgt := 2) hx hb dX7_foldInto_41 (by decide) ?_
        exact ih2 (n + 1) (by have := hw.n3; omega) (by omega) _ (lv_sub hl [2, 1, 0] rfl)
  exact cut2 _ 0 (Nat.lt_succ_self _) (by have := hw.2.1.1; exact this) _ (lv_sub hl [1, 2, 0] rfl)
