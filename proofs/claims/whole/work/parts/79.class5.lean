theorem ckX8_part : ckV yX8_part cX8_part 2 (some .long) 1 := ⟨(gw_in m_895 rfl), (gw_in m_62 rfl), ⟨(gw_in m_893 rfl), (gw_in m_894 rfl)⟩, by decide +kernel, by decide +kernel, by decide +kernel⟩
theorem ckX8_status : ckV yX8_status cX8_status 2 (some .int) 1 := ⟨(gw_in m_921 rfl), (gw_in m_62 rfl), ⟨(gw_in m_919 rfl), (gw_in m_920 rfl)⟩, by decide +kernel, by decide +kernel, by decide +kernel⟩
theorem ckX8_howMany : ckV yX8_howMany cX8_howMany 2 (some .int) 1 := ⟨(gw_in m_929 rfl), (gw_in m_62 rfl), ⟨(gw_in m_928 rfl), (gw_in m_29 rfl)⟩, by decide +kernel, by decide +kernel, by decide +kernel⟩
theorem ckX8_count : ckV yX8_count cX8_count 2 (some .int) 1 := ⟨(gw_in m_925 rfl), (gw_in m_62 rfl), ⟨(gw_in m_923 rfl), (gw_in m_924 rfl)⟩, by decide +kernel, by decide +kernel, by decide +kernel⟩
theorem ckX8_digest : ckV yX8_digest cX8_digest 4 (some .long) 0 := ⟨(gw_in m_939 rfl), (gw_in m_62 rfl), ⟨(gw_in m_937 rfl), (gw_in m_938 rfl)⟩, by decide +kernel, by decide +kernel, by decide +kernel⟩
theorem ckX8_powerOfTen : ckS yX8_powerOfTen cX8_powerOfTen 4 (some .long) 1 := ⟨(gw_in m_868 rfl), (gw_in m_62 rfl), (gw_in m_867 rfl), by decide +kernel, by decide +kernel, by decide +kernel⟩
theorem ckX8_commonDivisor : ckS yX8_commonDivisor cX8_commonDivisor 7 (some .long) 2 := ⟨(gw_in m_872 rfl), (gw_in m_62 rfl), (gw_in m_871 rfl), by decide +kernel, by decide +kernel, by decide +kernel⟩
theorem ckX8_odds : ckV yX8_odds cX8_odds 11 (some .int) 4 := ⟨(gw_in m_855 rfl), (gw_in m_62 rfl), ⟨(gw_in m_853 rfl), (gw_in m_854 rfl)⟩, by decide +kernel, by decide +kernel, by decide +kernel⟩
def cnC (r : Nat → Int32) (N N1 N2 N3 tN : Nat) (w : Int32) : Int32 := if w = 0 then r 1 else if w = 1 then r 2 else if w = 2 then r 0 else if w = 3 then setB (fun j => yBrk r (nI j)) (cl (r 2)) else if w = 4 then sumN (fun j => yFact r (nI j) 4) (cl (r 2)) else if w = 5 then sumN (fun j => yFact r (nI j) 5) (cl (r 2)) else if w = 6 then nI N1 else if w = 7 then nI N2 else if w = 8 then nI N3 else if w = 9 then nI N else nI tN
/-- how many steps Euclid goes, two for each bit -/
def stF : Nat → Nat → Nat → Nat
  | 0, _, _ => 0
  | m + 1, U, V => if V = 0 then 0 else stF m V (U % V) + 1
def stp (U V : Nat) : Nat := stF (V + 1) U V
theorem stF_eq : ∀ (m k U V : Nat), V < m → V < k → stF m U V = stF k U V
  | 0, _, _, _, h, _ => absurd h (Nat.not_lt_zero _)
  | m + 1, 0, _, _, _, h => absurd h (Nat.not_lt_zero _)
  | m + 1, k + 1, U, V, h1, h2 => by
    unfold stF
    by_cases hV : V = 0
    · rw [if_pos hV, if_pos hV]
    · rw [if_neg hV, if_neg hV]
      have := Nat.mod_lt U (show 0 < V by omega)
      rw [stF_eq m k V (U % V) (by omega) (by omega)]
theorem stp_s {U V : Nat} (h : ¬ V = 0) : stp U V = stp V (U % V) + 1 := by
  have := Nat.mod_lt U (show 0 < V by omega)
  show stF (V + 1) U V = stF (U % V + 1) V (U % V) + 1
  rw [stF_eq (U % V + 1) V V (U % V) (by omega) (by omega)]
  exact if_neg h
theorem stp_0 {U V : Nat} (h : stp U V = 0) : V = 0 := by
  by_cases hV : V = 0
  · exact hV
  · rw [stp_s hV] at h; omega
theorem mod_half {U V : Nat} (h : 0 < V) (hVU : V ≤ U) : 2 * (U % V) < U := by
  have h1 := Nat.mod_lt U h
  have h2 := Nat.div_add_mod U V
  have h3 : 1 ≤ U / V := (Nat.one_le_div_iff h).mpr hVU
  have h4 : V * 1 ≤ V * (U / V) := Nat.mul_le_mul_left V h3
  omega
theorem stp_lg : ∀ (k U V : Nat), V < 2 ^ k → V ≤ U → stp U V ≤ 2 * k
  | 0, U, V, h, _ => by
    have hV : V = 0 := by rw [Nat.pow_zero] at h; omega
    subst hV
    exact Nat.le_refl 0
  | k + 1, U, V, h, hU => by
    by_cases hV : V = 0
    · subst hV; exact Nat.zero_le _
    · rw [stp_s hV]
      have h1 := Nat.mod_lt U (show 0 < V by omega)
      by_cases hW : U % V = 0
      · rw [show stp V (U % V) = 0 from by rw [hW]; rfl]; omega
      · rw [stp_s hW]
        have h2 := mod_half (U := V) (V := U % V) (by omega) (by omega)
        have h3 : 2 ^ (k + 1) = 2 ^ k * 2 := Nat.pow_succ _ _
        have h4 := Nat.mod_lt V (show 0 < U % V by omega)
        have := stp_lg k (U % V) (V % (U % V)) (by omega) (by omega)
        omega
theorem stp_le {U V : Nat} (h : V < 2147483648) : stp U V ≤ 64 - 0 := by
  by_cases hV : V = 0
  · subst hV; exact Nat.zero_le _
  · rw [stp_s hV]
    have h1 := Nat.mod_lt U (show 0 < V by omega)
    have := stp_lg 31 V (U % V) (by have : (2 : Nat) ^ 31 = 2147483648 := by decide
                                    omega) (by omega)
    omega
theorem cmp_pos {A : Nat} (h0 : 0 < A) (h : A < 2147483648) : ¬ lg_cmp (lN A) (0 : Int64) ≤ 0 := by
  have h1 : lN A > (0 : Int64) := by
    show (0 : Int64) < lN A
    rw [show (0 : Int64) = lN 0 from rfl, pk_lLT (by omega) (by omega)]; exact h0
  rw [show lg_cmp (lN A) (0 : Int64) = 1 from if_pos h1]; decide
/-- ways as plain numbers -/
def swW (d hh : Nat) : Nat → Nat
  | 0 => 1
  | n + 1 => swW d hh n * (if hasB (nI hh) (nI n) = true then 10 - d else d)
theorem sw_lN {r : Nat → Int32} {i j : Int32} {d hh : Nat} (hd : d ≤ 10) : ∀ n, (swF r i j (nI d) (nI hh) n).1 = lN (swW d hh n)
  | 0 => rfl
  | n + 1 => by
    have ih := sw_lN (r := r) (i := i) (j := j) (hh := hh) hd n
    unfold swF swW
    by_cases hb : hasB (nI hh) (nI n) = true
    · rw [if_pos hb, if_pos hb]
      show (swF r i j (nI d) (nI hh) n).1 * (10 - nI d).toInt64 = _
      rw [ih, show (10 : Int32) - nI d = nI (10 - d) from pk_sub hd, nI_l (by omega), lN_mul]
    · rw [if_neg hb, if_neg hb]
      show (swF r i j (nI d) (nI hh) n).1 * (nI d).toInt64 = _
      rw [ih, nI_l (by omega), lN_mul]
def wbN (r : Nat → Int32) (i j : Int32) (d N : Nat) : Nat → Nat
  | 0 => 0
  | n + 1 => if yBrk (swF r i j (nI d) (nI n) N).2 j = true then (if yWhl (swF r i j (nI d) (nI n) N).2 i = true then wbN r i j d N n + swW d n N else wbN r i j d N n) else wbN r i j d N n
theorem wb_lN {r : Nat → Int32} {i j : Int32} {d N : Nat} (hd : d ≤ 10) (hN : N ≤ 6) : ∀ n, wbF r i j (nI d) N n = lN (wbN r i j d N n)
  | 0 => rfl
  | n + 1 => by
    have ih := wb_lN (r := r) (i := i) (j := j) hd hN n
    unfold wbF wbN
    by_cases h1 : yBrk (swF r i j (nI d) (nI n) N).2 j = true
    · rw [if_pos h1, if_pos h1]
      by_cases h2 : yWhl (swF r i j (nI d) (nI n) N).2 i = true
      · rw [if_pos h2, if_pos h2, ih, sw_lN hd, lN_add]
      · rw [if_neg h2, if_neg h2, ih]
    · rw [if_neg h1, if_neg h1, ih]
theorem swW_le {d hh : Nat} (hd : d ≤ 10) : ∀ n, swW d hh n ≤ 10 ^ n
  | 0 => Nat.le_refl 1
  | n + 1 => by
    have ih := swW_le (hh := hh) hd n
    unfold swW
    rw [Nat.pow_succ]
    refine Nat.mul_le_mul ih ?_
    split <;> omega
theorem wbN_lq {r : Nat → Int32} {i j : Int32} {d N : Nat} (hd : d ≤ 10) : ∀ n, wbN r i j d N n ≤ n * 10 ^ N
  | 0 => Nat.zero_le _
  | n + 1 => by
    have ih := wbN_lq (r := r) (i := i) (j := j) (N := N) hd n
    have h2 := swW_le (hh := n) hd N
    unfold wbN
    rw [Nat.succ_mul]
    split
    · split
      · omega
      · omega
    · omega
theorem wbN_le {r : Nat → Int32} {i j : Int32} {d N : Nat} (hd : d ≤ 10) (hN : N ≤ 6) : wbN r i j d N (2 ^ N) ≤ 64000000 :=
  Nat.le_trans (wbN_lq hd _) (Nat.mul_le_mul (pw64 hN) (pw10 hN))
set_option maxHeartbeats 4000000 in
set_option maxRecDepth 100000 in
theorem kX8_part (l : Launch) (g : gG) (x : Nat → Nat) (nw im te tr gu : Nat) (ab be : Int64) (tb tn tf : Int32) (w : Int32) : Met l yX8_part (.code yX8_part cX8_part 2 (some .long) :: gw) (rmN 1) (va_Pc [.ref (x 0), .int (w)] (rwPre g (cO g x nw im te tr gu ab be tb tn tf ++ []))) (rwQl g (cO g x nw im te tr gu ab be tb tn tf ++ []) (cO g x nw im te tr gu ab be (if wth w 0 1 = true then tb else tb + 1) tn tf ++ []) (if wth w 0 1 = true then (if w = 0 then ab else be) else (-2 : Int32).toInt64)) 0 0 (dm (cO g x nw im te tr gu ab be tb tn tf ++ [])) := by
  refine met_start (by decide) (Nat.le_of_ble_eq_true rfl) ?_
  intro pp ee ss mm bl mt cd hC hpre ls hl
  obtain ⟨⟨hx, hb, hml, hown, hts⟩, hr, hlk, hnm⟩ := id hC
  have hl : lv_has ls 2 [(0, .ref (x 0)), (1, .int (w))] := hl
  obtain ⟨hP, hK, hD⟩ := hpre
  have hS : va_S (dm (cO g x nw im te tr gu ab be tb tn tf ++ [])) ss.heap ss.heap [] := va_S.rf
  have hD := vD_self hD
  refine lv_iload_n hx hb dX8_part_0 rfl (lv_at hl 1 rfl) ?_
  refine lv_iconst (v := 0) hx hb dX8_part_1 rfl ?_
  refine lv_iconst (v := 1) hx hb dX8_part_2 rfl ?_
  refine ro_i (run_S (As := [.int (w), .int (0), .int (1)]) (rest := []) hC.1 ckX8_within (kX8_within l w 0 1) (gw_in m_317 rfl) (fb_nil _) (fun _ _ _ => trivial) ⟨rfl, rfl, Nat.le_of_ble_eq_true rfl, Nat.le_of_ble_eq_true rfl⟩ rfl hl.1 rfl (Nat.le_of_ble_eq_true rfl) dX8_part_3 ⟨Nat.le_of_ble_eq_true rfl, Nat.le_of_ble_eq_true rfl⟩) ?_
  refine lv_if_ne (tgt := 15) hx hb dX8_part_6 (by decide) (fun c1 => ?_) (fun c1 => ?_)
  · skip
    have c1 := b2i_1 c1
    refine lv_iload_n hx hb dX8_part_15 rfl (lv_at hl 1 rfl) ?_
    refine lv_if_ne (tgt := 26) hx hb dX8_part_16 (by decide) (fun c2 => ?_) (fun c2 => ?_)
    · skip
      refine lv_aload_n hx hb dX8_part_26 rfl (lv_at hl 0 rfl) ?_
      refine kget hC.1 hK (kP_app.mp hP).1 0 rfl rfl in_8 6 (by decide) (gw_in m_288 rfl) rfl dX8_part_27 ?_
      exact ret_rwl hx hb hr hlk (by rw [if_pos c1, if_neg c2]) (kP_eq (by rw [if_pos c1]) hP) hS dX8_part_30
    · skip
      refine lv_aload_n hx hb dX8_part_19 rfl (lv_at hl 0 rfl) ?_
      refine kget hC.1 hK (kP_app.mp hP).1 0 rfl rfl in_8 5 (by decide) (gw_in m_287 rfl) rfl dX8_part_20 ?_
      refine lv_goto (tgt := 30) hx hb dX8_part_23 (by decide) ?_
      exact ret_rwl hx hb hr hlk (by rw [if_pos c1, if_pos c2]) (kP_eq (by rw [if_pos c1]) hP) hS dX8_part_30
  · skip
    have c1 := b2i_0 c1
    refine lv_aload_n hx hb dX8_part_9 rfl (lv_at hl 0 rfl) ?_
    refine rw_i (run_V (As := []) (rest := []) hC.1 ckX8_bad (kX8_bad l g x nw im te tr gu ab be tb tn tf) (gw_in m_320 rfl) (fb_rw _ _ _) (va_recv hK.1 (kP_app.mp hP).1 (q0 := 0) rfl rfl) (fun U hU hW => ⟨by rw [hU]; exact (kP_app.mpr ⟨(kP_app.mp hP).1, kP_nil⟩), kK_warm hW hK, vD_sub (sbA _ (sb0 _)) hD⟩) ⟨rfl, rfl, Nat.le_of_ble_eq_true rfl, Nat.le_of_ble_eq_true rfl⟩ rfl hl.1 rfl (Nat.le_of_ble_eq_true rfl) dX8_part_10 ⟨Nat.le_of_ble_eq_true rfl, Nat.le_of_ble_eq_true rfl⟩) (adr_app cO_adr rfl) (asc1 _ _) (ww' := cO g x nw im te tr gu ab be (tb + 1) tn tf ++ []) (asc1 _ _) hP hD hS (fun H locs hP hD hS => ?_)
    refine lv_i2l hx hb dX8_part_13 rfl ?_
    exact ret_rwl hx hb hr hlk (by rw [if_neg (by rw [c1]; decide)]) (kP_eq (by rw [if_neg (by rw [c1]; decide)]) hP) hS dX8_part_14
set_option maxHeartbeats 4000000 in
set_option maxRecDepth 100000 in
theorem kX8_status (l : Launch) (g : gG) (x : Nat → Nat) (nw im te tr gu : Nat) (ab be : Int64) (tb tn tf : Int32) (w : Int32) : Met l yX8_status (.code yX8_status cX8_status 2 (some .int) :: gw) (rmN 1) (va_Pc [.ref (x 0), .int (w)] (rwPre g (cO g x nw im te tr gu ab be tb tn tf ++ []))) (rwQi g (cO g x nw im te tr gu ab be tb tn tf ++ []) (cO g x nw im te tr gu ab be (if w = 0 then tb else if w = 1 then tb else if w = 2 then tb else tb + 1) tn tf ++ []) (if w = 0 then tb else if w = 1 then tn else if w = 2 then tf else -1)) 0 0 (dm (cO g x nw im te tr gu ab be tb tn tf ++ [])) := by
  refine met_start (by decide) (Nat.le_of_ble_eq_true rfl) ?_
  intro pp ee ss mm bl mt cd hC hpre ls hl
  obtain ⟨⟨hx, hb, hml, hown, hts⟩, hr, hlk, hnm⟩ := id hC
  have hl : lv_has ls 2 [(0, .ref (x 0)), (1, .int (w))] := hl
  obtain ⟨hP, hK, hD⟩ := hpre
  have hS : va_S (dm (cO g x nw im te tr gu ab be tb tn tf ++ [])) ss.heap ss.heap [] := va_S.rf
  have hD := vD_self hD
  refine lv_iload_n hx hb dX8_status_0 rfl (lv_at hl 1 rfl) ?_
  by_cases k1 : w = 0
  · skip
    refine lv_tableIn (x := w) (tgt := 28) hx hb dX8_status_1 (by rw [k1]; decide) (by rw [k1]; decide) (by rw [k1]; rfl) (by decide) ?_
    refine lv_aload_n hx hb dX8_status_28 rfl (lv_at hl 0 rfl) ?_
    refine kget hC.1 hK (kP_app.mp hP).1 0 rfl rfl in_8 7 (by decide) (gw_in m_289 rfl) rfl dX8_status_29 ?_
    exact ret_rwi hx hb hr hlk (by simp [k1]) (kP_eq (by simp [k1]) hP) hS dX8_status_32
  by_cases k2 : w = 1
  · skip
    refine lv_tableIn (x := w) (tgt := 33) hx hb dX8_status_1 (by rw [k2]; decide) (by rw [k2]; decide) (by rw [k2]; rfl) (by decide) ?_
    refine lv_aload_n hx hb dX8_status_33 rfl (lv_at hl 0 rfl) ?_
    refine kget hC.1 hK (kP_app.mp hP).1 0 rfl rfl in_8 8 (by decide) (gw_in m_290 rfl) rfl dX8_status_34 ?_
    exact ret_rwi hx hb hr hlk (by simp [k2]) (kP_eq (by simp [k2]) hP) hS dX8_status_37
  by_cases k3 : w = 2
  · skip
    refine lv_tableIn (x := w) (tgt := 38) hx hb dX8_status_1 (by rw [k3]; decide) (by rw [k3]; decide) (by rw [k3]; rfl) (by decide) ?_
    refine lv_aload_n hx hb dX8_status_38 rfl (lv_at hl 0 rfl) ?_
    refine kget hC.1 hK (kP_app.mp hP).1 0 rfl rfl in_8 9 (by decide) (gw_in m_291 rfl) rfl dX8_status_39 ?_
    exact ret_rwi hx hb hr hlk (by simp [k3]) (kP_eq (by simp [k3]) hP) hS dX8_status_42
  refine lv_tableOut (tgt := 43) hx hb dX8_status_1 (sw_out0_2 k1 k2 k3) (by decide) ?_
  refine lv_aload_n hx hb dX8_status_43 rfl (lv_at hl 0 rfl) ?_
  refine rw_i (run_V (As := []) (rest := []) hC.1 ckX8_bad (kX8_bad l g x nw im te tr gu ab be tb tn tf) (gw_in m_320 rfl) (fb_rw _ _ _) (va_recv hK.1 (kP_app.mp hP).1 (q0 := 0) rfl rfl) (fun U hU hW => ⟨by rw [hU]; exact (kP_app.mpr ⟨(kP_app.mp hP).1, kP_nil⟩), kK_warm hW hK, vD_sub (sbA _ (sb0 _)) hD⟩) ⟨rfl, rfl, Nat.le_of_ble_eq_true rfl, Nat.le_of_ble_eq_true rfl⟩ rfl hl.1 rfl (Nat.le_of_ble_eq_true rfl) dX8_status_44 ⟨Nat.le_of_ble_eq_true rfl, Nat.le_of_ble_eq_true rfl⟩) (adr_app cO_adr rfl) (asc1 _ _) (ww' := cO g x nw im te tr gu ab be (tb + 1) tn tf ++ []) (asc1 _ _) hP hD hS (fun H locs hP hD hS => ?_)
  refine lv_pop hx hb dX8_status_47 rfl ?_
  refine lv_iconst (v := -1) hx hb dX8_status_48 rfl ?_
  exact ret_rwi hx hb hr hlk (by simp [k1, k2, k3]) (kP_eq (by simp [k1, k2, k3]) hP) hS dX8_status_49
set_option maxHeartbeats 4000000 in
set_option maxRecDepth 100000 in
theorem kX8_howMany (l : Launch) (g : gG) (x : Nat → Nat) (im tr gu : Nat) (ab be : Int64) (tb tn tf : Int32) (a ay ap b1 b2 b3 : Nat → Nat) (r : Nat → Int32) (N : Nat) (f : Nat → Int32) (N1 N2 N3 : Nat) (l1 l2 l3 : Int32) (f1 f2 f3 : Nat → Int32) (e : Nat → Nat) (tN : Nat) (flt : Int32) (tx : Nat → Int32) (so : Int32) (sta beh : Nat) (va : Int32) (w : Int32) (hw : Wf r) : Met l yX8_howMany (.code yX8_howMany cX8_howMany 2 (some .int) :: gw) (rmN 5) (va_Pc [.ref (x 0), .int (w)] (roPre g (cO g x (a 0) im (e 0) tr gu ab be tb tn tf ++ (gW g a (ay 0) (ap 0) (b1 0) (b2 0) (b3 0) ++ (yW g ay r ++ (pW g ap N f ++ (rW g b1 N1 l1 f1 ++ (rW g b2 N2 l2 f2 ++ (rW g b3 N3 l3 f3 ++ (xW g e tN flt tx so sta beh va ++ [])))))))))) (vp_Si (fun v => v = (cnC r N N1 N2 N3 tN w))) 0 0 (fun _ => False) := by
  refine met_start (by decide) (Nat.le_of_ble_eq_true rfl) ?_
  intro pp ee ss mm bl mt cd hC hpre ls hl
  obtain ⟨⟨hx, hb, hml, hown, hts⟩, hr, hlk, hnm⟩ := id hC
  have hl : lv_has ls 2 [(0, .ref (x 0)), (1, .int (w))] := hl
  obtain ⟨hP, hK⟩ := hpre
  refine lv_iload_n hx hb dX8_howMany_0 rfl (lv_at hl 1 rfl) ?_
  by_cases k1 : w = 0
  · skip
    refine lv_tableIn (x := w) (tgt := 56) hx hb dX8_howMany_1 (by rw [k1]; decide) (by rw [k1]; decide) (by rw [k1]; rfl) (by decide) ?_
    refine lv_aload_n hx hb dX8_howMany_56 rfl (lv_at hl 0 rfl) ?_
    refine kget hC.1 hK (kP_app.mp hP).1 0 rfl rfl in_8 0 (by decide) (gw_in m_282 rfl) rfl dX8_howMany_57 ?_
    refine kget hC.1 hK (kP_app.mp (kP_app.mp hP).2).1 0 rfl rfl in_1 0 (by decide) (gw_in m_180 rfl) rfl dX8_howMany_60 ?_
    refine kget hC.1 hK (kP_app.mp (kP_app.mp (kP_app.mp hP).2).2).1 0 rfl rfl in_7 0 (by decide) (gw_in m_100 rfl) rfl dX8_howMany_63 ?_
    exact ret_roi hx hb hr hlk (by simp [cnC, k1]) dX8_howMany_66
  by_cases k2 : w = 1
  · skip
    refine lv_tableIn (x := w) (tgt := 67) hx hb dX8_howMany_1 (by rw [k2]; decide) (by rw [k2]; decide) (by rw [k2]; rfl) (by decide) ?_
    refine lv_aload_n hx hb dX8_howMany_67 rfl (lv_at hl 0 rfl) ?_
    refine kget hC.1 hK (kP_app.mp hP).1 0 rfl rfl in_8 0 (by decide) (gw_in m_282 rfl) rfl dX8_howMany_68 ?_
    refine kget hC.1 hK (kP_app.mp (kP_app.mp hP).2).1 0 rfl rfl in_1 0 (by decide) (gw_in m_180 rfl) rfl dX8_howMany_71 ?_
    refine kget hC.1 hK (kP_app.mp (kP_app.mp (kP_app.mp hP).2).2).1 0 rfl rfl in_7 1 (by decide) (gw_in m_103 rfl) rfl dX8_howMany_74 ?_
    exact ret_roi hx hb hr hlk (by simp [cnC, k2]) dX8_howMany_77
  by_cases k3 : w = 2
  · skip
    refine lv_tableIn (x := w) (tgt := 78) hx hb dX8_howMany_1 (by rw [k3]; decide) (by rw [k3]; decide) (by rw [k3]; rfl) (by decide) ?_
    refine lv_aload_n hx hb dX8_howMany_78 rfl (lv_at hl 0 rfl) ?_
    refine kget hC.1 hK (kP_app.mp hP).1 0 rfl rfl in_8 0 (by decide) (gw_in m_282 rfl) rfl dX8_howMany_79 ?_
    refine kget hC.1 hK (kP_app.mp (kP_app.mp hP).2).1 0 rfl rfl in_1 0 (by decide) (gw_in m_180 rfl) rfl dX8_howMany_82 ?_
    refine kget hC.1 hK (kP_app.mp (kP_app.mp (kP_app.mp hP).2).2).1 0 rfl rfl in_7 2 (by decide) (gw_in m_107 rfl) rfl dX8_howMany_85 ?_
    exact ret_roi hx hb hr hlk (by simp [cnC, k3]) dX8_howMany_88
  by_cases k4 : w = 3
  · skip
    refine lv_tableIn (x := w) (tgt := 89) hx hb dX8_howMany_1 (by rw [k4]; decide) (by rw [k4]; decide) (by rw [k4]; rfl) (by decide) ?_
    refine lv_aload_n hx hb dX8_howMany_89 rfl (lv_at hl 0 rfl) ?_
    refine kget hC.1 hK (kP_app.mp hP).1 0 rfl rfl in_8 0 (by decide) (gw_in m_282 rfl) rfl dX8_howMany_90 ?_
    refine kget hC.1 hK (kP_app.mp (kP_app.mp hP).2).1 0 rfl rfl in_1 0 (by decide) (gw_in m_180 rfl) rfl dX8_howMany_93 ?_
    refine ro_i (run_V (As := []) (rest := []) hC.1 ckX7_brokenBits (kX7_brokenBits l g ay r hw) (gw_in m_930 rfl) (fb_ro _ _ _) (va_recv hK.1 (kP_app.mp (kP_app.mp (kP_app.mp hP).2).2).1 (q0 := 0) rfl rfl) (fun U hU hW => ⟨by rw [hU]; exact (kP_app.mp (kP_app.mp (kP_app.mp hP).2).2).1, kK_warm hW hK⟩) ⟨rfl, rfl, Nat.le_of_ble_eq_true rfl, Nat.le_of_ble_eq_true rfl⟩ rfl hl.1 rfl (Nat.le_of_ble_eq_true rfl) dX8_howMany_96 ⟨Nat.le_of_ble_eq_true rfl, Nat.le_of_ble_eq_true rfl⟩) ?_
    exact ret_roi hx hb hr hlk (by simp [cnC, k4]) dX8_howMany_99
  by_cases k5 : w = 4
  · skip
    refine lv_tableIn (x := w) (tgt := 100) hx hb dX8_howMany_1 (by rw [k5]; decide) (by rw [k5]; decide) (by rw [k5]; rfl) (by decide) ?_
    refine lv_aload_n hx hb dX8_howMany_100 rfl (lv_at hl 0 rfl) ?_
    refine kget hC.1 hK (kP_app.mp hP).1 0 rfl rfl in_8 0 (by decide) (gw_in m_282 rfl) rfl dX8_howMany_101 ?_
    refine kget hC.1 hK (kP_app.mp (kP_app.mp hP).2).1 0 rfl rfl in_1 0 (by decide) (gw_in m_180 rfl) rfl dX8_howMany_104 ?_
    refine lv_iconst (v := 4) hx hb dX8_howMany_107 rfl ?_
    refine ro_i (run_V (As := [.int (4)]) (rest := []) hC.1 ckX7_sumOf (kX7_sumOf l g ay r 4 hw) (gw_in m_931 rfl) (fb_ro _ _ _) (va_recv hK.1 (kP_app.mp (kP_app.mp (kP_app.mp hP).2).2).1 (q0 := 0) rfl rfl) (fun U hU hW => ⟨by rw [hU]; exact (kP_app.mp (kP_app.mp (kP_app.mp hP).2).2).1, kK_warm hW hK⟩) ⟨rfl, rfl, Nat.le_of_ble_eq_true rfl, Nat.le_of_ble_eq_true rfl⟩ rfl hl.1 rfl (Nat.le_of_ble_eq_true rfl) dX8_howMany_108 ⟨Nat.le_of_ble_eq_true rfl, Nat.le_of_ble_eq_true rfl⟩) ?_
    exact ret_roi hx hb hr hlk (by simp [cnC, k5]) dX8_howMany_111
  by_cases k6 : w = 5
  · skip
    refine lv_tableIn (x := w) (tgt := 112) hx hb dX8_howMany_1 (by rw [k6]; decide) (by rw [k6]; decide) (by rw [k6]; rfl) (by decide) ?_
    refine lv_aload_n hx hb dX8_howMany_112 rfl (lv_at hl 0 rfl) ?_
    refine kget hC.1 hK (kP_app.mp hP).1 0 rfl rfl in_8 0 (by decide) (gw_in m_282 rfl) rfl dX8_howMany_113 ?_
    refine kget hC.1 hK (kP_app.mp (kP_app.mp hP).2).1 0 rfl rfl in_1 0 (by decide) (gw_in m_180 rfl) rfl dX8_howMany_116 ?_
    refine lv_iconst (v := 5) hx hb dX8_howMany_119 rfl ?_
    refine ro_i (run_V (As := [.int (5)]) (rest := []) hC.1 ckX7_sumOf (kX7_sumOf l g ay r 5 hw) (gw_in m_931 rfl) (fb_ro _ _ _) (va_recv hK.1 (kP_app.mp (kP_app.mp (kP_app.mp hP).2).2).1 (q0 := 0) rfl rfl) (fun U hU hW => ⟨by rw [hU]; exact (kP_app.mp (kP_app.mp (kP_app.mp hP).2).2).1, kK_warm hW hK⟩) ⟨rfl, rfl, Nat.le_of_ble_eq_true rfl, Nat.le_of_ble_eq_true rfl⟩ rfl hl.1 rfl (Nat.le_of_ble_eq_true rfl) dX8_howMany_120 ⟨Nat.le_of_ble_eq_true rfl, Nat.le_of_ble_eq_true rfl⟩) ?_
    exact ret_roi hx hb hr hlk (by simp [cnC, k6]) dX8_howMany_123
  by_cases k7 : w = 6
  · skip
    refine lv_tableIn (x := w) (tgt := 124) hx hb dX8_howMany_1 (by rw [k7]; decide) (by rw [k7]; decide) (by rw [k7]; rfl) (by decide) ?_
    refine lv_aload_n hx hb dX8_howMany_124 rfl (lv_at hl 0 rfl) ?_
    refine kget hC.1 hK (kP_app.mp hP).1 0 rfl rfl in_8 0 (by decide) (gw_in m_282 rfl) rfl dX8_howMany_125 ?_
    refine kget hC.1 hK (kP_app.mp (kP_app.mp hP).2).1 0 rfl rfl in_1 2 (by decide) (gw_in m_185 rfl) rfl dX8_howMany_128 ?_
    refine kget hC.1 hK (kP_app.mp (kP_app.mp (kP_app.mp (kP_app.mp (kP_app.mp hP).2).2).2).2).1 0 rfl rfl in_4 0 (by decide) (gw_in m_169 rfl) rfl dX8_howMany_131 ?_
    exact ret_roi hx hb hr hlk (by simp [cnC, k7]) dX8_howMany_134
  by_cases k8 : w = 7
  · skip
    refine lv_tableIn (x := w) (tgt := 135) hx hb dX8_howMany_1 (by rw [k8]; decide) (by rw [k8]; decide) (by rw [k8]; rfl) (by decide) ?_
    refine lv_aload_n hx hb dX8_howMany_135 rfl (lv_at hl 0 rfl) ?_
    refine kget hC.1 hK (kP_app.mp hP).1 0 rfl rfl in_8 0 (by decide) (gw_in m_282 rfl) rfl dX8_howMany_136 ?_
    refine kget hC.1 hK (kP_app.mp (kP_app.mp hP).2).1 0 rfl rfl in_1 3 (by decide) (gw_in m_187 rfl) rfl dX8_howMany_139 ?_
    refine kget hC.1 hK (kP_app.mp (kP_app.mp (kP_app.mp (kP_app.mp (kP_app.mp (kP_app.mp hP).2).2).2).2).2).1 0 rfl rfl in_4 0 (by decide) (gw_in m_169 rfl) rfl dX8_howMany_142 ?_
    exact ret_roi hx hb hr hlk (by simp [cnC, k8]) dX8_howMany_145
  by_cases k9 : w = 8
  · skip
    refine lv_tableIn (x := w) (tgt := 146) hx hb dX8_howMany_1 (by rw [k9]; decide) (by rw [k9]; decide) (by rw [k9]; rfl) (by decide) ?_
    refine lv_aload_n hx hb dX8_howMany_146 rfl (lv_at hl 0 rfl) ?_
    refine kget hC.1 hK (kP_app.mp hP).1 0 rfl rfl in_8 0 (by decide) (gw_in m_282 rfl) rfl dX8_howMany_147 ?_
    refine kget hC.1 hK (kP_app.mp (kP_app.mp hP).2).1 0 rfl rfl in_1 4 (by decide) (gw_in m_189 rfl) rfl dX8_howMany_150 ?_
    refine kget hC.1 hK (kP_app.mp (kP_app.mp (kP_app.mp (kP_app.mp (kP_app.mp (kP_app.mp (kP_app.mp hP).2).2).2).2).2).2).1 0 rfl rfl in_4 0 (by decide) (gw_in m_169 rfl) rfl dX8_howMany_153 ?_
    exact ret_roi hx hb hr hlk (by simp [cnC, k9]) dX8_howMany_156
  by_cases k10 : w = 9
  · skip
    refine lv_tableIn (x := w) (tgt := 157) hx hb dX8_howMany_1 (by rw [k10]; decide) (by rw [k10]; decide) (by rw [k10]; rfl) (by decide) ?_
    refine lv_aload_n hx hb dX8_howMany_157 rfl (lv_at hl 0 rfl) ?_
    refine kget hC.1 hK (kP_app.mp hP).1 0 rfl rfl in_8 0 (by decide) (gw_in m_282 rfl) rfl dX8_howMany_158 ?_
    refine kget hC.1 hK (kP_app.mp (kP_app.mp hP).2).1 0 rfl rfl in_1 1 (by decide) (gw_in m_183 rfl) rfl dX8_howMany_161 ?_
    refine kget hC.1 hK (kP_app.mp (kP_app.mp (kP_app.mp (kP_app.mp hP).2).2).2).1 0 rfl rfl in_3 0 (by decide) (gw_in m_150 rfl) rfl dX8_howMany_164 ?_
    exact ret_roi hx hb hr hlk (by simp [cnC, k10]) dX8_howMany_167
  refine lv_tableOut (tgt := 168) hx hb dX8_howMany_1 (sw_out0_9 k1 k2 k3 k4 k5 k6 k7 k8 k9 k10) (by decide) ?_
  refine lv_aload_n hx hb dX8_howMany_168 rfl (lv_at hl 0 rfl) ?_
  refine kget hC.1 hK (kP_app.mp hP).1 0 rfl rfl in_8 2 (by decide) (gw_in m_284 rfl) rfl dX8_howMany_169 ?_
  refine kget hC.1 hK (kP_app.mp (kP_app.mp (kP_app.mp (kP_app.mp (kP_app.mp (kP_app.mp (kP_app.mp (kP_app.mp hP).2).2).2).2).2).2).2).1 0 rfl rfl in_5 0 (by decide) (gw_in m_209 rfl) rfl dX8_howMany_172 ?_
  exact ret_roi hx hb hr hlk (by simp [cnC, k1, k2, k3, k4, k5, k6, k7, k8, k9, k10]) dX8_howMany_175
set_option maxHeartbeats 4000000 in
set_option maxRecDepth 100000 in
theorem kX8_count (l : Launch) (g : gG) (x : Nat → Nat) (im tr gu : Nat) (ab be : Int64) (tb tn tf : Int32) (a ay ap b1 b2 b3 : Nat → Nat) (r : Nat → Int32) (N : Nat) (f : Nat → Int32) (N1 N2 N3 : Nat) (l1 l2 l3 : Int32) (f1 f2 f3 : Nat → Int32) (e : Nat → Nat) (tN : Nat) (flt : Int32) (tx : Nat → Int32) (so : Int32) (sta beh : Nat) (va : Int32) (w : Int32) (hw : Wf r) : Met l yX8_count (.code yX8_count cX8_count 2 (some .int) :: gw) (rmN 6) (va_Pc [.ref (x 0), .int (w)] (rwPre g (cO g x (a 0) im (e 0) tr gu ab be tb tn tf ++ (gW g a (ay 0) (ap 0) (b1 0) (b2 0) (b3 0) ++ (yW g ay r ++ (pW g ap N f ++ (rW g b1 N1 l1 f1 ++ (rW g b2 N2 l2 f2 ++ (rW g b3 N3 l3 f3 ++ (xW g e tN flt tx so sta beh va ++ [])))))))))) (rwQi g (cO g x (a 0) im (e 0) tr gu ab be tb tn tf ++ (gW g a (ay 0) (ap 0) (b1 0) (b2 0) (b3 0) ++ (yW g ay r ++ (pW g ap N f ++ (rW g b1 N1 l1 f1 ++ (rW g b2 N2 l2 f2 ++ (rW g b3 N3 l3 f3 ++ (xW g e tN flt tx so sta beh va ++ [])))))))) (cO g x (a 0) im (e 0) tr gu ab be (if wth w 0 10 = true then tb else tb + 1) tn tf ++ (gW g a (ay 0) (ap 0) (b1 0) (b2 0) (b3 0) ++ (yW g ay r ++ (pW g ap N f ++ (rW g b1 N1 l1 f1 ++ (rW g b2 N2 l2 f2 ++ (rW g b3 N3 l3 f3 ++ (xW g e tN flt tx so sta beh va ++ [])))))))) (if wth w 0 10 = true then cnC r N N1 N2 N3 tN w else -2)) 0 0 (dm (cO g x (a 0) im (e 0) tr gu ab be tb tn tf ++ (gW g a (ay 0) (ap 0) (b1 0) (b2 0) (b3 0) ++ (yW g ay r ++ (pW g ap N f ++ (rW g b1 N1 l1 f1 ++ (rW g b2 N2 l2 f2 ++ (rW g b3 N3 l3 f3 ++ (xW g e tN flt tx so sta beh va ++ []))))))))) := by
  refine met_start (by decide) (Nat.le_of_ble_eq_true rfl) ?_
  intro pp ee ss mm bl mt cd hC hpre ls hl
  obtain ⟨⟨hx, hb, hml, hown, hts⟩, hr, hlk, hnm⟩ := id hC
  have hl : lv_has ls 2 [(0, .ref (x 0)), (1, .int (w))] := hl
  obtain ⟨hP, hK, hD⟩ := hpre
  have hS : va_S (dm (cO g x (a 0) im (e 0) tr gu ab be tb tn tf ++ (gW g a (ay 0) (ap 0) (b1 0) (b2 0) (b3 0) ++ (yW g ay r ++ (pW g ap N f ++ (rW g b1 N1 l1 f1 ++ (rW g b2 N2 l2 f2 ++ (rW g b3 N3 l3 f3 ++ (xW g e tN flt tx so sta beh va ++ []))))))))) ss.heap ss.heap [] := va_S.rf
  have hD := vD_self hD
  refine lv_iload_n hx hb dX8_count_0 rfl (lv_at hl 1 rfl) ?_
  refine lv_iconst (v := 0) hx hb dX8_count_1 rfl ?_
  refine lv_bipush (v := 10) hx hb dX8_count_2 rfl ?_
  refine ro_i (run_S (As := [.int (w), .int (0), .int (10)]) (rest := []) hC.1 ckX8_within (kX8_within l w 0 10) (gw_in m_317 rfl) (fb_nil _) (fun _ _ _ => trivial) ⟨rfl, rfl, Nat.le_of_ble_eq_true rfl, Nat.le_of_ble_eq_true rfl⟩ rfl hl.1 rfl (Nat.le_of_ble_eq_true rfl) dX8_count_4 ⟨Nat.le_of_ble_eq_true rfl, Nat.le_of_ble_eq_true rfl⟩) ?_
  refine lv_if_ne (tgt := 15) hx hb dX8_count_7 (by decide) (fun c1 => ?_) (fun c1 => ?_)
  · skip
    have c1 := b2i_1 c1
    refine lv_aload_n hx hb dX8_count_15 rfl (lv_at hl 0 rfl) ?_
    refine lv_iload_n hx hb dX8_count_16 rfl (lv_at hl 1 rfl) ?_
    refine ro_i (run_V (As := [.int (w)]) (rest := []) hC.1 ckX8_howMany (kX8_howMany l g x im tr gu ab be tb tn tf a ay ap b1 b2 b3 r N f N1 N2 N3 l1 l2 l3 f1 f2 f3 e tN flt tx so sta beh va w hw) (gw_in m_926 rfl) (fb_ro _ _ _) (va_recv hK.1 (kP_app.mp hP).1 (q0 := 0) rfl rfl) (fun U hU hW => ⟨by rw [hU]; exact (kP_app.mpr ⟨(kP_app.mp hP).1, (kP_app.mpr ⟨(kP_app.mp (kP_app.mp hP).2).1, (kP_app.mpr ⟨(kP_app.mp (kP_app.mp (kP_app.mp hP).2).2).1, (kP_app.mpr ⟨(kP_app.mp (kP_app.mp (kP_app.mp (kP_app.mp hP).2).2).2).1, (kP_app.mpr ⟨(kP_app.mp (kP_app.mp (kP_app.mp (kP_app.mp (kP_app.mp hP).2).2).2).2).1, (kP_app.mpr ⟨(kP_app.mp (kP_app.mp (kP_app.mp (kP_app.mp (kP_app.mp (kP_app.mp hP).2).2).2).2).2).1, (kP_app.mpr ⟨(kP_app.mp (kP_app.mp (kP_app.mp (kP_app.mp (kP_app.mp (kP_app.mp (kP_app.mp hP).2).2).2).2).2).2).1, (kP_app.mpr ⟨(kP_app.mp (kP_app.mp (kP_app.mp (kP_app.mp (kP_app.mp (kP_app.mp (kP_app.mp (kP_app.mp hP).2).2).2).2).2).2).2).1, (kP_mem.mpr (fun _ h => absurd h List.not_mem_nil))⟩)⟩)⟩)⟩)⟩)⟩)⟩)⟩), kK_warm hW hK⟩) ⟨rfl, rfl, Nat.le_of_ble_eq_true rfl, Nat.le_of_ble_eq_true rfl⟩ rfl hl.1 rfl (Nat.le_of_ble_eq_true rfl) dX8_count_17 ⟨Nat.le_of_ble_eq_true rfl, Nat.le_of_ble_eq_true rfl⟩) ?_
    exact ret_rwi hx hb hr hlk (by rw [if_pos c1]) (kP_eq (by rw [if_pos c1]) hP) hS dX8_count_20
  · skip
    have c1 := b2i_0 c1
    refine lv_aload_n hx hb dX8_count_10 rfl (lv_at hl 0 rfl) ?_
    refine rw_i (run_V (As := []) (rest := []) hC.1 ckX8_bad (kX8_bad l g x (a 0) im (e 0) tr gu ab be tb tn tf) (gw_in m_320 rfl) (fb_rw _ _ _) (va_recv hK.1 (kP_app.mp hP).1 (q0 := 0) rfl rfl) (fun U hU hW => ⟨by rw [hU]; exact (kP_app.mpr ⟨(kP_app.mp hP).1, kP_nil⟩), kK_warm hW hK, vD_sub (sbA _ (sb0 _)) hD⟩) ⟨rfl, rfl, Nat.le_of_ble_eq_true rfl, Nat.le_of_ble_eq_true rfl⟩ rfl hl.1 rfl (Nat.le_of_ble_eq_true rfl) dX8_count_11 ⟨Nat.le_of_ble_eq_true rfl, Nat.le_of_ble_eq_true rfl⟩) (adr_app cO_adr rfl) (asc1 _ _) (ww' := cO g x (a 0) im (e 0) tr gu ab be (tb + 1) tn tf ++ (gW g a (ay 0) (ap 0) (b1 0) (b2 0) (b3 0) ++ (yW g ay r ++ (pW g ap N f ++ (rW g b1 N1 l1 f1 ++ (rW g b2 N2 l2 f2 ++ (rW g b3 N3 l3 f3 ++ (xW g e tN flt tx so sta beh va ++ [])))))))) (asc1 _ _) hP hD hS (fun H locs hP hD hS => ?_)
    exact ret_rwi hx hb hr hlk (by rw [if_neg (by rw [c1]; decide)]) (kP_eq (by rw [if_neg (by rw [c1]; decide)]) hP) hS dX8_count_14
set_option maxHeartbeats 4000000 in
set_option maxRecDepth 100000 in
theorem kX8_digest (l : Launch) (g : gG) (x : Nat → Nat) (im tr gu : Nat) (ab be : Int64) (tb tn tf : Int32) (a ay ap b1 b2 b3 : Nat → Nat) (r : Nat → Int32) (N : Nat) (f : Nat → Int32) (N1 N2 N3 : Nat) (l1 l2 l3 : Int32) (f1 f2 f3 : Nat → Int32) (e : Nat → Nat) (tN : Nat) (flt : Int32) (tx : Nat → Int32) (so : Int32) (sta beh : Nat) (va : Int32)  (hw : Wf r) (hN1 : N1 ≤ 6) (hN2 : N2 ≤ 6) (hN3 : N3 ≤ 6) : Met l yX8_digest (.code yX8_digest cX8_digest 4 (some .long) :: gw) (rmN 6) (va_Pc [.ref (x 0)] (roPre g (cO g x (a 0) im (e 0) tr gu ab be tb tn tf ++ (gW g a (ay 0) (ap 0) (b1 0) (b2 0) (b3 0) ++ (yW g ay r ++ (pW g ap N f ++ (rW g b1 N1 l1 f1 ++ (rW g b2 N2 l2 f2 ++ (rW g b3 N3 l3 f3 ++ (xW g e tN flt tx so sta beh va ++ [])))))))))) (vp_Sl (fun v => v = (31 * (31 * (dgR f3 5 (dgR f2 6 (dgR f1 5 (dgN r (dgP r (dgK (fun w => cnC r N N1 N2 N3 tN (nI w)) 1823 11) (cl (r 1))) (cl (r 2))) N1) N2) N3) + ab) + be))) 0 0 (fun _ => False) := by
  refine met_start (by decide) (Nat.le_of_ble_eq_true rfl) ?_
  intro pp ee ss mm bl mt cd hC hpre ls hl
  obtain ⟨⟨hx, hb, hml, hown, hts⟩, hr, hlk, hnm⟩ := id hC
  have hl : lv_has ls 4 [(0, .ref (x 0))] := hl
  obtain ⟨hP, hK⟩ := hpre
  refine lv_ldc2 (v := 1823) hx hb hown (hts _ (gw_in m_940 rfl)) dX8_digest_0 ?_
  refine lv_lstore_n (lv' := [(1, .long (1823)), (0, .ref (x 0))]) hx hb dX8_digest_3 rfl hl (by decide) rfl (fun ls hl => ?_)
  refine lv_iconst (v := 0) hx hb dX8_digest_4 rfl ?_
  refine lv_istore_n (lv' := [(3, .int (0)), (1, .long (1823)), (0, .ref (x 0))]) hx hb dX8_digest_5 rfl hl (by decide) rfl (fun ls hl => ?_)
  have cut6 : ∀ kk : Nat, ∀ (n : Nat), 12 - n < kk → (hn : n ≤ 11) → ∀ (ls : Array Slot), lv_has ls 4 [(0, .ref (x 0)), (1, .long (dgK (fun w => cnC r N N1 N2 N3 tN (nI w)) 1823 n)), (3, .int (nI n))] → W pp l ee (rmN 6) ss mm ([.ref (x 0)] : List Value).toArray bl mt cd ss.heap [] 0 0 (MQ bl (vp_Sl (fun v => v = (31 * (31 * (dgR f3 5 (dgR f2 6 (dgR f1 5 (dgN r (dgP r (dgK (fun w => cnC r N N1 N2 N3 tN (nI w)) 1823 11) (cl (r 1))) (cl (r 2))) N1) N2) N3) + ab) + be))) ([.ref (x 0)] : List Value).toArray ss 0 0 (fun _ => False)) (F0 mm 6 ls []) := by
    intro kk
    induction kk with
    | zero => intro n hmu; exact absurd hmu (Nat.not_lt_zero _)
    | succ kk ih6 =>
      intro n hmu hn ls hl
      refine lv_iload_n hx hb dX8_digest_6 rfl (lv_at hl 2 rfl) ?_
      refine lv_bipush (v := 10) hx hb dX8_digest_7 rfl ?_
      refine lv_icmp_gt (tgt := 31) hx hb dX8_digest_9 (by decide) (fun c1 => ?_) (fun c1 => ?_)
      · skip
        have c1' := Int32.not_le.mpr c1
        have hn9 : n = 11 := by have h9 := c1; rw [Int32.lt_iff_toInt_lt, nI_ti (by omega), show (10 : Int32).toInt = 10 from rfl] at h9; omega
        subst hn9
        refine lv_aload_n hx hb dX8_digest_31 rfl (lv_at hl 0 rfl) ?_
        refine kget hC.1 hK (kP_app.mp hP).1 0 rfl rfl in_8 0 (by decide) (gw_in m_282 rfl) rfl dX8_digest_32 ?_
        refine kget hC.1 hK (kP_app.mp (kP_app.mp hP).2).1 0 rfl rfl in_1 0 (by decide) (gw_in m_180 rfl) rfl dX8_digest_35 ?_
        refine lv_lload_n hx hb dX8_digest_38 rfl (lv_at hl 1 rfl) ?_
        refine ro_l (run_V (As := [.long (dgK (fun w => cnC r N N1 N2 N3 tN (nI w)) 1823 11)]) (rest := []) hC.1 ckX7_foldInto (kX7_foldInto l g ay r (dgK (fun w => cnC r N N1 N2 N3 tN (nI w)) 1823 11) hw) (gw_in m_942 rfl) (fb_ro _ _ _) (va_recv hK.1 (kP_app.mp (kP_app.mp (kP_app.mp hP).2).2).1 (q0 := 0) rfl rfl) (fun U hU hW => ⟨by rw [hU]; exact (kP_app.mp (kP_app.mp (kP_app.mp hP).2).2).1, kK_warm hW hK⟩) ⟨rfl, rfl, Nat.le_of_ble_eq_true rfl, Nat.le_of_ble_eq_true rfl⟩ rfl hl.1 rfl (Nat.le_of_ble_eq_true rfl) dX8_digest_39 ⟨Nat.le_of_ble_eq_true rfl, Nat.le_of_ble_eq_true rfl⟩) ?_
        refine lv_lstore_n (lv' := [(1, .long (dgN r (dgP r (dgK (fun w => cnC r N N1 N2 N3 tN (nI w)) 1823 11) (cl (r 1))) (cl (r 2)))), (0, .ref (x 0)), (3, .int (nI 11))]) hx hb dX8_digest_42 rfl hl (by decide) rfl (fun ls hl => ?_)
        refine lv_aload_n hx hb dX8_digest_43 rfl (lv_at hl 1 rfl) ?_
        refine kget hC.1 hK (kP_app.mp hP).1 0 rfl rfl in_8 0 (by decide) (gw_in m_282 rfl) rfl dX8_digest_44 ?_
        refine kget hC.1 hK (kP_app.mp (kP_app.mp hP).2).1 0 rfl rfl in_1 2 (by decide) (gw_in m_185 rfl) rfl dX8_digest_47 ?_
        refine lv_lload_n hx hb dX8_digest_50 rfl (lv_at hl 0 rfl) ?_
        refine lv_iconst (v := 5) hx hb dX8_digest_51 rfl ?_
        refine ro_l (run_V (As := [.long (dgN r (dgP r (dgK (fun w => cnC r N N1 N2 N3 tN (nI w)) 1823 11) (cl (r 1))) (cl (r 2))), .int (5)]) (rest := []) hC.1 ckX4_foldInto (kX4_foldInto l g b1 N1 l1 f1 (dgN r (dgP r (dgK (fun w => cnC r N N1 N2 N3 tN (nI w)) 1823 11) (cl (r 1))) (cl (r 2))) 5 hN1 (by omega)) (gw_in m_948 rfl) (fb_ro _ _ _) (va_recv hK.1 (kP_app.mp (kP_app.mp (kP_app.mp (kP_app.mp (kP_app.mp hP).2).2).2).2).1 (q0 := 0) rfl rfl) (fun U hU hW => ⟨by rw [hU]; exact (kP_app.mp (kP_app.mp (kP_app.mp (kP_app.mp (kP_app.mp hP).2).2).2).2).1, kK_warm hW hK⟩) ⟨rfl, rfl, Nat.le_of_ble_eq_true rfl, Nat.le_of_ble_eq_true rfl⟩ rfl hl.1 rfl (Nat.le_of_ble_eq_true rfl) dX8_digest_52 ⟨Nat.le_of_ble_eq_true rfl, Nat.le_of_ble_eq_true rfl⟩) ?_
        refine lv_lstore_n (lv' := [(1, .long (dgR f1 5 (dgN r (dgP r (dgK (fun w => cnC r N N1 N2 N3 tN (nI w)) 1823 11) (cl (r 1))) (cl (r 2))) N1)), (0, .ref (x 0)), (3, .int (nI 11))]) hx hb dX8_digest_55 rfl hl (by decide) rfl (fun ls hl => ?_)
        refine lv_aload_n hx hb dX8_digest_56 rfl (lv_at hl 1 rfl) ?_
        refine kget hC.1 hK (kP_app.mp hP).1 0 rfl rfl in_8 0 (by decide) (gw_in m_282 rfl) rfl dX8_digest_57 ?_
        refine kget hC.1 hK (kP_app.mp (kP_app.mp hP).2).1 0 rfl rfl in_1 3 (by decide) (gw_in m_187 rfl) rfl dX8_digest_60 ?_
        refine lv_lload_n hx hb dX8_digest_63 rfl (lv_at hl 0 rfl) ?_
        refine lv_bipush (v := 6) hx hb dX8_digest_64 rfl ?_
        refine ro_l (run_V (As := [.long (dgR f1 5 (dgN r (dgP r (dgK (fun w => cnC r N N1 N2 N3 tN (nI w)) 1823 11) (cl (r 1))) (cl (r 2))) N1), .int (6)]) (rest := []) hC.1 ckX4_foldInto (kX4_foldInto l g b2 N2 l2 f2 (dgR f1 5 (dgN r (dgP r (dgK (fun w => cnC r N N1 N2 N3 tN (nI w)) 1823 11) (cl (r 1))) (cl (r 2))) N1) 6 hN2 (by omega)) (gw_in m_948 rfl) (fb_ro _ _ _) (va_recv hK.1 (kP_app.mp (kP_app.mp (kP_app.mp (kP_app.mp (kP_app.mp (kP_app.mp hP).2).2).2).2).2).1 (q0 := 0) rfl rfl) (fun U hU hW => ⟨by rw [hU]; exact (kP_app.mp (kP_app.mp (kP_app.mp (kP_app.mp (kP_app.mp (kP_app.mp hP).2).2).2).2).2).1, kK_warm hW hK⟩) ⟨rfl, rfl, Nat.le_of_ble_eq_true rfl, Nat.le_of_ble_eq_true rfl⟩ rfl hl.1 rfl (Nat.le_of_ble_eq_true rfl) dX8_digest_66 ⟨Nat.le_of_ble_eq_true rfl, Nat.le_of_ble_eq_true rfl⟩) ?_
        refine lv_lstore_n (lv' := [(1, .long (dgR f2 6 (dgR f1 5 (dgN r (dgP r (dgK (fun w => cnC r N N1 N2 N3 tN (nI w)) 1823 11) (cl (r 1))) (cl (r 2))) N1) N2)), (0, .ref (x 0)), (3, .int (nI 11))]) hx hb dX8_digest_69 rfl hl (by decide) rfl (fun ls hl => ?_)
        refine lv_aload_n hx hb dX8_digest_70 rfl (lv_at hl 1 rfl) ?_
        refine kget hC.1 hK (kP_app.mp hP).1 0 rfl rfl in_8 0 (by decide) (gw_in m_282 rfl) rfl dX8_digest_71 ?_
        refine kget hC.1 hK (kP_app.mp (kP_app.mp hP).2).1 0 rfl rfl in_1 4 (by decide) (gw_in m_189 rfl) rfl dX8_digest_74 ?_
        refine lv_lload_n hx hb dX8_digest_77 rfl (lv_at hl 0 rfl) ?_
        refine lv_iconst (v := 5) hx hb dX8_digest_78 rfl ?_
        refine ro_l (run_V (As := [.long (dgR f2 6 (dgR f1 5 (dgN r (dgP r (dgK (fun w => cnC r N N1 N2 N3 tN (nI w)) 1823 11) (cl (r 1))) (cl (r 2))) N1) N2), .int (5)]) (rest := []) hC.1 ckX4_foldInto (kX4_foldInto l g b3 N3 l3 f3 (dgR f2 6 (dgR f1 5 (dgN r (dgP r (dgK (fun w => cnC r N N1 N2 N3 tN (nI w)) 1823 11) (cl (r 1))) (cl (r 2))) N1) N2) 5 hN3 (by omega)) (gw_in m_948 rfl) (fb_ro _ _ _) (va_recv hK.1 (kP_app.mp (kP_app.mp (kP_app.mp (kP_app.mp (kP_app.mp (kP_app.mp (kP_app.mp hP).2).2).2).2).2).2).1 (q0 := 0) rfl rfl) (fun U hU hW => ⟨by rw [hU]; exact (kP_app.mp (kP_app.mp (kP_app.mp (kP_app.mp (kP_app.mp (kP_app.mp (kP_app.mp hP).2).2).2).2).2).2).1, kK_warm hW hK⟩) ⟨rfl, rfl, Nat.le_of_ble_eq_true rfl, Nat.le_of_ble_eq_true rfl⟩ rfl hl.1 rfl (Nat.le_of_ble_eq_true rfl) dX8_digest_79 ⟨Nat.le_of_ble_eq_true rfl, Nat.le_of_ble_eq_true rfl⟩) ?_
        refine lv_lstore_n (lv' := [(1, .long (dgR f3 5 (dgR f2 6 (dgR f1 5 (dgN r (dgP r (dgK (fun w => cnC r N N1 N2 N3 tN (nI w)) 1823 11) (cl (r 1))) (cl (r 2))) N1) N2) N3)), (0, .ref (x 0)), (3, .int (nI 11))]) hx hb dX8_digest_82 rfl hl (by decide) rfl (fun ls hl => ?_)
        refine lv_ldc2 (v := 31) hx hb hown (hts _ (gw_in m_941 rfl)) dX8_digest_83 ?_
        refine lv_lload_n hx hb dX8_digest_86 rfl (lv_at hl 0 rfl) ?_
        refine lv_lmul hx hb dX8_digest_87 ?_
        refine lv_aload_n hx hb dX8_digest_88 rfl (lv_at hl 1 rfl) ?_
        refine kget hC.1 hK (kP_app.mp hP).1 0 rfl rfl in_8 5 (by decide) (gw_in m_287 rfl) rfl dX8_digest_89 ?_
        refine lv_ladd hx hb dX8_digest_92 ?_
        refine lv_lstore_n (lv' := [(1, .long ((31 * (dgR f3 5 (dgR f2 6 (dgR f1 5 (dgN r (dgP r (dgK (fun w => cnC r N N1 N2 N3 tN (nI w)) 1823 11) (cl (r 1))) (cl (r 2))) N1) N2) N3)) + ab)), (0, .ref (x 0)), (3, .int (nI 11))]) hx hb dX8_digest_93 rfl hl (by decide) rfl (fun ls hl => ?_)
        refine lv_ldc2 (v := 31) hx hb hown (hts _ (gw_in m_941 rfl)) dX8_digest_94 ?_
        refine lv_lload_n hx hb dX8_digest_97 rfl (lv_at hl 0 rfl) ?_
        refine lv_lmul hx hb dX8_digest_98 ?_
        refine lv_aload_n hx hb dX8_digest_99 rfl (lv_at hl 1 rfl) ?_
        refine kget hC.1 hK (kP_app.mp hP).1 0 rfl rfl in_8 6 (by decide) (gw_in m_288 rfl) rfl dX8_digest_100 ?_
        refine lv_ladd hx hb dX8_digest_103 ?_
        exact ret_rol hx hb hr hlk (by rfl) dX8_digest_104
      · skip
        have c1' := Int32.not_lt.mp c1
        have hn9 : n ≤ 10 := by have h9 := c1; rw [Int32.lt_iff_toInt_lt, nI_ti (by omega), show (10 : Int32).toInt = 10 from rfl] at h9; omega
        refine lv_ldc2 (v := 31) hx hb hown (hts _ (gw_in m_941 rfl)) dX8_digest_12 ?_
        refine lv_lload_n hx hb dX8_digest_15 rfl (lv_at hl 1 rfl) ?_
        refine lv_lmul hx hb dX8_digest_16 ?_
        refine lv_aload_n hx hb dX8_digest_17 rfl (lv_at hl 0 rfl) ?_
        refine lv_iload_n hx hb dX8_digest_18 rfl (lv_at hl 2 rfl) ?_
        refine ro_i (run_V (As := [.int (nI n)]) (rest := [.long (31 * (dgK (fun w => cnC r N N1 N2 N3 tN (nI w)) 1823 n))]) hC.1 ckX8_howMany (kX8_howMany l g x im tr gu ab be tb tn tf a ay ap b1 b2 b3 r N f N1 N2 N3 l1 l2 l3 f1 f2 f3 e tN flt tx so sta beh va (nI n) hw) (gw_in m_926 rfl) (fb_ro _ _ _) (va_recv hK.1 (kP_app.mp hP).1 (q0 := 0) rfl rfl) (fun U hU hW => ⟨by rw [hU]; exact (kP_app.mpr ⟨(kP_app.mp hP).1, (kP_app.mpr ⟨(kP_app.mp (kP_app.mp hP).2).1, (kP_app.mpr ⟨(kP_app.mp (kP_app.mp (kP_app.mp hP).2).2).1, (kP_app.mpr ⟨(kP_app.mp (kP_app.mp (kP_app.mp (kP_app.mp hP).2).2).2).1, (kP_app.mpr ⟨(kP_app.mp (kP_app.mp (kP_app.mp (kP_app.mp (kP_app.mp hP).2).2).2).2).1, (kP_app.mpr ⟨(kP_app.mp (kP_app.mp (kP_app.mp (kP_app.mp (kP_app.mp (kP_app.mp hP).2).2).2).2).2).1, (kP_app.mpr ⟨(kP_app.mp (kP_app.mp (kP_app.mp (kP_app.mp (kP_app.mp (kP_app.mp (kP_app.mp hP).2).2).2).2).2).2).1, (kP_app.mpr ⟨(kP_app.mp (kP_app.mp (kP_app.mp (kP_app.mp (kP_app.mp (kP_app.mp (kP_app.mp (kP_app.mp hP).2).2).2).2).2).2).2).1, (kP_mem.mpr (fun _ h => absurd h List.not_mem_nil))⟩)⟩)⟩)⟩)⟩)⟩)⟩)⟩), kK_warm hW hK⟩) ⟨rfl, rfl, Nat.le_of_ble_eq_true rfl, Nat.le_of_ble_eq_true rfl⟩ rfl hl.1 rfl (Nat.le_of_ble_eq_true rfl) dX8_digest_19 ⟨Nat.le_of_ble_eq_true rfl, Nat.le_of_ble_eq_true rfl⟩) ?_
        refine lv_i2l hx hb dX8_digest_22 rfl ?_
        refine lv_ladd hx hb dX8_digest_23 ?_
        refine top_l (x := (31 * (dgK (fun w => cnC r N N1 N2 N3 tN (nI w)) 1823 n)) + ((cnC r N N1 N2 N3 tN (nI n)).toInt64)) (y := dgK (fun w => cnC r N N1 N2 N3 tN (nI w)) 1823 (n + 1)) rfl ?_
        refine lv_lstore_n (lv' := [(1, .long (dgK (fun w => cnC r N N1 N2 N3 tN (nI w)) 1823 (n + 1))), (0, .ref (x 0)), (3, .int (nI n))]) hx hb dX8_digest_24 rfl hl (by decide) rfl (fun ls hl => ?_)
        refine lv_iinc (v := nI (n + 1)) (lv' := [(3, .int (nI (n + 1))), (1, .long (dgK (fun w => cnC r N N1 N2 N3 tN (nI w)) 1823 (n + 1))), (0, .ref (x 0))]) hx hb dX8_digest_25 hl (k := 2) rfl (inc_nI n) (by decide) rfl (fun ls hl => ?_)
        refine lv_goto (tgt := 6) hx hb dX8_digest_28 (by decide) ?_
        exact ih6 (n + 1) (by omega) (by omega) _ (lv_sub hl [2, 1, 0] rfl)
  exact cut6 _ 0 (Nat.lt_succ_self _) (by omega) _ (lv_sub hl [2, 1, 0] rfl)
set_option maxHeartbeats 4000000 in
set_option maxRecDepth 100000 in
theorem kX8_powerOfTen (l : Launch) (N : Nat) (hN : N ≤ 6) : Met l yX8_powerOfTen (.code yX8_powerOfTen cX8_powerOfTen 4 (some .long) :: gw) (rmN 0) (va_Pc [.int (nI N)] (fun _ => True)) (vp_Sl (fun v => v = (lN (10 ^ N)))) 0 0 (fun _ => False) := by
  refine met_start (by decide) (Nat.le_of_ble_eq_true rfl) ?_
  intro pp ee ss mm bl mt cd hC hpre ls hl
  obtain ⟨⟨hx, hb, hml, hown, hts⟩, hr, hlk, hnm⟩ := id hC
  have hl : lv_has ls 4 [(0, .int (nI N))] := hl
  refine lv_lconst (v := 1) hx hb dX8_powerOfTen_0 rfl ?_
  refine lv_lstore_n (lv' := [(1, .long (1)), (0, .int (nI N))]) hx hb dX8_powerOfTen_1 rfl hl (by decide) rfl (fun ls hl => ?_)
  refine lv_iconst (v := 0) hx hb dX8_powerOfTen_2 rfl ?_
  refine lv_istore_n (lv' := [(3, .int (0)), (1, .long (1)), (0, .int (nI N))]) hx hb dX8_powerOfTen_3 rfl hl (by decide) rfl (fun ls hl => ?_)
  have cut4 : ∀ kk : Nat, ∀ (k : Nat), N + 1 - k < kk → (hk : k ≤ N) → ∀ (ls : Array Slot), lv_has ls 4 [(0, .int (nI N)), (1, .long (lN (10 ^ k))), (3, .int (nI k))] → W pp l ee (rmN 0) ss mm ([.int (nI N)] : List Value).toArray bl mt cd ss.heap [] 0 0 (MQ bl (vp_Sl (fun v => v = (lN (10 ^ N)))) ([.int (nI N)] : List Value).toArray ss 0 0 (fun _ => False)) (F0 mm 4 ls []) := by
    intro kk
    induction kk with
    | zero => intro k hmu; exact absurd hmu (Nat.not_lt_zero _)
    | succ kk ih4 =>
      intro k hmu hk ls hl
      refine lv_iload_n hx hb dX8_powerOfTen_4 rfl (lv_at hl 2 rfl) ?_
      refine lv_iload_n hx hb dX8_powerOfTen_5 rfl (lv_at hl 0 rfl) ?_
      refine lv_icmp_ge (tgt := 21) hx hb dX8_powerOfTen_6 (by decide) (fun c1 => ?_) (fun c1 => ?_)
      · skip
        have c1' := Int32.not_lt.mpr c1
        have hn9 : k = N := by rw [nI_leI (by omega) (by omega)] at c1; omega
        refine lv_lload_n hx hb dX8_powerOfTen_21 rfl (lv_at hl 1 rfl) ?_
        exact ret_rol hx hb hr hlk (by rw [hn9]) dX8_powerOfTen_22
      · skip
        have c1' := Int32.not_le.mp c1
        have hn9 : k < N := by rw [nI_leI (by omega) (by omega)] at c1; omega
        refine lv_lload_n hx hb dX8_powerOfTen_9 rfl (lv_at hl 1 rfl) ?_
        refine lv_ldc2 (v := 10) hx hb hown (hts _ (gw_in m_869 rfl)) dX8_powerOfTen_10 ?_
        refine lv_lmul hx hb dX8_powerOfTen_13 ?_
        refine top_l (x := (lN (10 ^ k)) * 10) (y := lN (10 ^ (k + 1))) ((lN_mul _ 10).trans (by rw [Nat.pow_succ])) ?_
        refine lv_lstore_n (lv' := [(1, .long (lN (10 ^ (k + 1)))), (0, .int (nI N)), (3, .int (nI k))]) hx hb dX8_powerOfTen_14 rfl hl (by decide) rfl (fun ls hl => ?_)
        refine lv_iinc (v := nI (k + 1)) (lv' := [(3, .int (nI (k + 1))), (1, .long (lN (10 ^ (k + 1)))), (0, .int (nI N))]) hx hb dX8_powerOfTen_15 hl (k := 2) rfl (inc_nI k) (by decide) rfl (fun ls hl => ?_)
        refine lv_goto (tgt := 4) hx hb dX8_powerOfTen_18 (by decide) ?_
        exact ih4 (k + 1) (by omega) (by omega) _ (lv_sub hl [2, 1, 0] rfl)
  have hl : lv_has ls 4 [(3, .int (0)), (1, .long (lN (10 ^ 0))), (0, .int (nI N))] := by skip; exact hl
  exact cut4 _ 0 (Nat.lt_succ_self _) (by omega) _ (lv_sub hl [2, 1, 0] rfl)
set_option maxHeartbeats 4000000 in
set_option maxRecDepth 100000 in
theorem kX8_commonDivisor (l : Launch) (A B : Nat) (hA : A < 2147483648) (hB : B < 2147483648) : Met l yX8_commonDivisor (.code yX8_commonDivisor cX8_commonDivisor 7 (some .long) :: gw) (rmN 0) (va_Pc [.long (lN A), .long (lN B)] (fun _ => True)) (vp_Sl (fun v => v = (lN (Nat.gcd A B)))) 0 0 (fun _ => False) := by
  refine met_start (by decide) (Nat.le_of_ble_eq_true rfl) ?_
  intro pp ee ss mm bl mt cd hC hpre ls hl
  obtain ⟨⟨hx, hb, hml, hown, hts⟩, hr, hlk, hnm⟩ := id hC
  have hl : lv_has ls 7 [(0, .long (lN A)), (2, .long (lN B))] := hl
  refine lv_iconst (v := 0) hx hb dX8_commonDivisor_0 rfl ?_
  refine lv_istore (lv' := [(4, .int (0)), (0, .long (lN A)), (2, .long (lN B))]) hx hb dX8_commonDivisor_1 hl (by decide) rfl (fun ls hl => ?_)
  have cut3 : ∀ kk : Nat, ∀ (k U V : Nat), 65 - k < kk → (hk : k ≤ 64) → (hU : U < 2147483648) → (hV : V < 2147483648) → (hgc : Nat.gcd U V = Nat.gcd A B) → (hst : stp U V ≤ 64 - k) → ∀ (ls : Array Slot), lv_has ls 7 [(0, .long (lN U)), (2, .long (lN V)), (4, .int (nI k))] → W pp l ee (rmN 0) ss mm ([.long (lN A), .long (lN B)] : List Value).toArray bl mt cd ss.heap [] 0 0 (MQ bl (vp_Sl (fun v => v = (lN (Nat.gcd A B)))) ([.long (lN A), .long (lN B)] : List Value).toArray ss 0 0 (fun _ => False)) (F0 mm 3 ls []) := by
    intro kk
    induction kk with
    | zero => intro k U V hmu; exact absurd hmu (Nat.not_lt_zero _)
    | succ kk ih3 =>
      intro k U V hmu hk hU hV hgc hst ls hl
      refine lv_iload hx hb dX8_commonDivisor_3 (lv_at hl 2 rfl) ?_
      refine lv_bipush (v := 64) hx hb dX8_commonDivisor_5 rfl ?_
      refine lv_icmp_ge (tgt := 32) hx hb dX8_commonDivisor_7 (by decide) (fun c1 => ?_) (fun c1 => ?_)
      · skip
        have c1' := Int32.not_lt.mpr c1
        have hk9 : k = 64 := by have := lp_ge (by omega) c1; rw [show (64 : Int32).toInt = 64 from rfl] at this; omega
        have hV0 : V = 0 := stp_0 (U := U) (by omega)
        refine lv_lload_n hx hb dX8_commonDivisor_32 rfl (lv_at hl 0 rfl) ?_
        exact ret_rol hx hb hr hlk (by rw [← hgc, hV0, Nat.gcd_zero_right]) dX8_commonDivisor_33
      · skip
        have c1' := Int32.not_le.mp c1
        have hk9 : k < 64 := by have := lp_lt (by omega) c1; rw [show (64 : Int32).toInt = 64 from rfl] at this; omega
        refine lv_lload_n hx hb dX8_commonDivisor_10 rfl (lv_at hl 1 rfl) ?_
        refine lv_lconst (v := 0) hx hb dX8_commonDivisor_11 rfl ?_
        refine W.lcmp hx hb dX8_commonDivisor_12 ?_
        refine lv_if_eq (tgt := 32) hx hb dX8_commonDivisor_13 (by decide) (fun c2 => ?_) (fun c2 => ?_)
        · skip
          have hV0 : V = 0 := by rw [cmp0, show (0 : Int64) = lN 0 from rfl, pk_lEQ (by omega) (by omega)] at c2; exact c2
          refine lv_lload_n hx hb dX8_commonDivisor_32 rfl (lv_at hl 0 rfl) ?_
          exact ret_rol hx hb hr hlk (by rw [← hgc, hV0, Nat.gcd_zero_right]) dX8_commonDivisor_33
        · skip
          have hV0 : ¬ V = 0 := fun e => c2 (by rw [cmp0, e]; rfl)
          refine lv_lload_n hx hb dX8_commonDivisor_16 rfl (lv_at hl 0 rfl) ?_
          refine lv_lload_n hx hb dX8_commonDivisor_17 rfl (lv_at hl 1 rfl) ?_
          refine lv_lrem hx hb dX8_commonDivisor_18 (lN_ne0 (by omega) hV) ?_
          refine top_l (x := (lN U) - (lN U) / (lN V) * (lN V)) (y := lN (U % V)) (pk_lRem (by omega) (by omega) (by omega)) ?_
          refine lv_lstore (lv' := [(5, .long (lN (U % V))), (0, .long (lN U)), (2, .long (lN V)), (4, .int (nI k))]) hx hb dX8_commonDivisor_19 hl (by decide) rfl (fun ls hl => ?_)
          refine lv_lload_n hx hb dX8_commonDivisor_21 rfl (lv_at hl 2 rfl) ?_
          refine lv_lstore_n (lv' := [(0, .long (lN V)), (5, .long (lN (U % V))), (2, .long (lN V)), (4, .int (nI k))]) hx hb dX8_commonDivisor_22 rfl hl (by decide) rfl (fun ls hl => ?_)
          refine lv_lload hx hb dX8_commonDivisor_23 (lv_at hl 1 rfl) ?_
          refine lv_lstore_n (lv' := [(2, .long (lN (U % V))), (0, .long (lN V)), (5, .long (lN (U % V))), (4, .int (nI k))]) hx hb dX8_commonDivisor_25 rfl hl (by decide) rfl (fun ls hl => ?_)
          refine lv_iinc (v := nI (k + 1)) (lv' := [(4, .int (nI (k + 1))), (2, .long (lN (U % V))), (0, .long (lN V)), (5, .long (lN (U % V)))]) hx hb dX8_commonDivisor_26 hl (k := 3) rfl (inc_nI k) (by decide) rfl (fun ls hl => ?_)
          refine lv_goto (tgt := 3) hx hb dX8_commonDivisor_29 (by decide) ?_
          exact ih3 (k + 1) V (U % V) (by omega) (by omega) hV (by have := Nat.mod_lt U (show 0 < V by omega); omega) ((gcd_go U V).symm.trans hgc) (by have := stp_s (U := U) (V := V) hV0; omega) _ (lv_sub hl [2, 1, 0] rfl)
  exact cut3 _ 0 A B (Nat.lt_succ_self _) (by omega) hA hB rfl (stp_le hB) _ (lv_sub hl [1, 2, 0] rfl)
set_option maxHeartbeats 4000000 in
set_option maxRecDepth 100000 in
theorem kX8_odds (l : Launch) (g : gG) (x : Nat → Nat) (im te gu : Nat) (ab be : Int64) (tb tn tf : Int32) (a ay : Nat → Nat) (ps s1 s2 s3 : Nat) (r : Nat → Int32) (t d : Nat → Nat) (sg : Nat → Nat) (bs bc : Int32) (p1 p2 p3 p4 p5 rg : Nat → Int32) (i j n c : Int32) (hw : Wf r) (hg : Wf rg) : Met l yX8_odds (.code yX8_odds cX8_odds 11 (some .int) :: gw) (rmN 6) (va_Pc [.ref (x 0), .int (i), .int (j), .int (n), .int (c)] (rwPre g (cO g x (a 0) im te (t 0) gu ab be tb tn tf ++ (gW g a (ay 0) ps s1 s2 s3 ++ (yW g ay r ++ (tW g t (d 0) sg bs bc p1 p2 p3 p4 p5 ++ (yW g d rg ++ []))))))) (rxQi g (cO g x (a 0) im te (t 0) gu ab be tb tn tf ++ (gW g a (ay 0) ps s1 s2 s3 ++ (yW g ay r ++ (tW g t (d 0) sg bs bc p1 p2 p3 p4 p5 ++ (yW g d rg ++ []))))) (fun u9 : ({q : Nat → Int32 // Wf q}) => cO g x (a 0) im te (t 0) gu (if (yNut r i && yNut r j && decide (¬ i = j) && wth n 0 6 && wth c 0 10) = true then lN (wbN r i j (cl c) (cl n) (2 ^ cl n) / Nat.gcd (wbN r i j (cl c) (cl n) (2 ^ cl n)) (10 ^ cl n)) else ab) (if (yNut r i && yNut r j && decide (¬ i = j) && wth n 0 6 && wth c 0 10) = true then lN (10 ^ cl n / Nat.gcd (wbN r i j (cl c) (cl n) (2 ^ cl n)) (10 ^ cl n)) else be) (if (yNut r i && yNut r j && decide (¬ i = j) && wth n 0 6 && wth c 0 10) = true then tb else tb + 1) tn tf ++ (gW g a (ay 0) ps s1 s2 s3 ++ (yW g ay r ++ (tW g t (d 0) sg bs bc p1 p2 p3 p4 p5 ++ (yW g d u9.1 ++ []))))) (if (yNut r i && yNut r j && decide (¬ i = j) && wth n 0 6 && wth c 0 10) = true then 1 else -2)) 0 0 (dm (cO g x (a 0) im te (t 0) gu ab be tb tn tf ++ (gW g a (ay 0) ps s1 s2 s3 ++ (yW g ay r ++ (tW g t (d 0) sg bs bc p1 p2 p3 p4 p5 ++ (yW g d rg ++ [])))))) := by
  refine met_start (by decide) (Nat.le_of_ble_eq_true rfl) ?_
  intro pp ee ss mm bl mt cd hC hpre ls hl
  obtain ⟨⟨hx, hb, hml, hown, hts⟩, hr, hlk, hnm⟩ := id hC
  have hl : lv_has ls 11 [(0, .ref (x 0)), (1, .int (i)), (2, .int (j)), (3, .int (n)), (4, .int (c))] := hl
  obtain ⟨hP, hK, hD⟩ := hpre
  have hS : va_S (dm (cO g x (a 0) im te (t 0) gu ab be tb tn tf ++ (gW g a (ay 0) ps s1 s2 s3 ++ (yW g ay r ++ (tW g t (d 0) sg bs bc p1 p2 p3 p4 p5 ++ (yW g d rg ++ [])))))) ss.heap ss.heap [] := va_S.rf
  have hD := vD_self hD
  refine lv_aload_n hx hb dX8_odds_0 rfl (lv_at hl 0 rfl) ?_
  refine lv_iload_n hx hb dX8_odds_1 rfl (lv_at hl 1 rfl) ?_
  refine lv_iload_n hx hb dX8_odds_2 rfl (lv_at hl 2 rfl) ?_
  refine ro_i (run_V (As := [.int (i), .int (j)]) (rest := []) hC.1 ckX8_areTwoNuts (kX8_areTwoNuts l g x im te (t 0) gu ab be tb tn tf a ay ps s1 s2 s3 r i j) (gw_in m_569 rfl) (fb_ro _ _ _) (va_recv hK.1 (kP_app.mp hP).1 (q0 := 0) rfl rfl) (fun U hU hW => ⟨by rw [hU]; exact (kP_app.mpr ⟨(kP_app.mp hP).1, (kP_app.mpr ⟨(kP_app.mp (kP_app.mp hP).2).1, (kP_app.mpr ⟨(kP_app.mp (kP_app.mp (kP_app.mp hP).2).2).1, (kP_mem.mpr (fun _ h => absurd h List.not_mem_nil))⟩)⟩)⟩), kK_warm hW hK⟩) ⟨rfl, rfl, Nat.le_of_ble_eq_true rfl, Nat.le_of_ble_eq_true rfl⟩ rfl hl.1 rfl (Nat.le_of_ble_eq_true rfl) dX8_odds_3 ⟨Nat.le_of_ble_eq_true rfl, Nat.le_of_ble_eq_true rfl⟩) ?_
  refine lv_if_eq (tgt := 30) hx hb dX8_odds_6 (by decide) (fun c1 => ?_) (fun c1 => ?_)
  · skip
    have c1 := b2i_0 c1
    refine lv_aload_n hx hb dX8_odds_30 rfl (lv_at hl 0 rfl) ?_
    refine rw_i (run_V (As := []) (rest := []) hC.1 ckX8_bad (kX8_bad l g x (a 0) im te (t 0) gu ab be tb tn tf) (gw_in m_320 rfl) (fb_rw _ _ _) (va_recv hK.1 (kP_app.mp hP).1 (q0 := 0) rfl rfl) (fun U hU hW => ⟨by rw [hU]; exact (kP_app.mpr ⟨(kP_app.mp hP).1, kP_nil⟩), kK_warm hW hK, vD_sub (sbA _ (sb0 _)) hD⟩) ⟨rfl, rfl, Nat.le_of_ble_eq_true rfl, Nat.le_of_ble_eq_true rfl⟩ rfl hl.1 rfl (Nat.le_of_ble_eq_true rfl) dX8_odds_31 ⟨Nat.le_of_ble_eq_true rfl, Nat.le_of_ble_eq_true rfl⟩) (adr_app cO_adr rfl) (asc1 _ _) (ww' := cO g x (a 0) im te (t 0) gu ab be (tb + 1) tn tf ++ (gW g a (ay 0) ps s1 s2 s3 ++ (yW g ay r ++ (tW g t (d 0) sg bs bc p1 p2 p3 p4 p5 ++ (yW g d rg ++ []))))) (asc1 _ _) hP hD hS (fun H locs hP hD hS => ?_)
    exact ret_rxi (S := ({q : Nat → Int32 // Wf q})) (⟨rg, hg⟩) hx hb hr hlk (by simp only [c1, if_true, if_false, eq_self, Bool.false_eq_true, Bool.and_true, Bool.true_and, Bool.and_false, Bool.false_and]) (kP_eq (by simp only [c1, if_true, if_false, eq_self, Bool.false_eq_true, Bool.and_true, Bool.true_and, Bool.and_false, Bool.false_and]) hP) hS dX8_odds_34
  · skip
    have c1 := b2i_1 c1
    refine lv_iload_n hx hb dX8_odds_9 rfl (lv_at hl 3 rfl) ?_
    refine lv_iconst (v := 0) hx hb dX8_odds_10 rfl ?_
    refine lv_bipush (v := 6) hx hb dX8_odds_11 rfl ?_
    refine ro_i (run_S (As := [.int (n), .int (0), .int (6)]) (rest := []) hC.1 ckX8_within (kX8_within l n 0 6) (gw_in m_317 rfl) (fb_nil _) (fun _ _ _ => trivial) ⟨rfl, rfl, Nat.le_of_ble_eq_true rfl, Nat.le_of_ble_eq_true rfl⟩ rfl hl.1 rfl (Nat.le_of_ble_eq_true rfl) dX8_odds_13 ⟨Nat.le_of_ble_eq_true rfl, Nat.le_of_ble_eq_true rfl⟩) ?_
    refine lv_if_eq (tgt := 30) hx hb dX8_odds_16 (by decide) (fun c2 => ?_) (fun c2 => ?_)
    · skip
      have c2 := b2i_0 c2
      refine lv_aload_n hx hb dX8_odds_30 rfl (lv_at hl 0 rfl) ?_
      refine rw_i (run_V (As := []) (rest := []) hC.1 ckX8_bad (kX8_bad l g x (a 0) im te (t 0) gu ab be tb tn tf) (gw_in m_320 rfl) (fb_rw _ _ _) (va_recv hK.1 (kP_app.mp hP).1 (q0 := 0) rfl rfl) (fun U hU hW => ⟨by rw [hU]; exact (kP_app.mpr ⟨(kP_app.mp hP).1, kP_nil⟩), kK_warm hW hK, vD_sub (sbA _ (sb0 _)) hD⟩) ⟨rfl, rfl, Nat.le_of_ble_eq_true rfl, Nat.le_of_ble_eq_true rfl⟩ rfl hl.1 rfl (Nat.le_of_ble_eq_true rfl) dX8_odds_31 ⟨Nat.le_of_ble_eq_true rfl, Nat.le_of_ble_eq_true rfl⟩) (adr_app cO_adr rfl) (asc1 _ _) (ww' := cO g x (a 0) im te (t 0) gu ab be (tb + 1) tn tf ++ (gW g a (ay 0) ps s1 s2 s3 ++ (yW g ay r ++ (tW g t (d 0) sg bs bc p1 p2 p3 p4 p5 ++ (yW g d rg ++ []))))) (asc1 _ _) hP hD hS (fun H locs hP hD hS => ?_)
      exact ret_rxi (S := ({q : Nat → Int32 // Wf q})) (⟨rg, hg⟩) hx hb hr hlk (by simp only [c1, c2, if_true, if_false, eq_self, Bool.false_eq_true, Bool.and_true, Bool.true_and, Bool.and_false, Bool.false_and]) (kP_eq (by simp only [c1, c2, if_true, if_false, eq_self, Bool.false_eq_true, Bool.and_true, Bool.true_and, Bool.and_false, Bool.false_and]) hP) hS dX8_odds_34
    · skip
      have c2 := b2i_1 c2
      refine lv_iload hx hb dX8_odds_19 (lv_at hl 4 rfl) ?_
      refine lv_iconst (v := 0) hx hb dX8_odds_21 rfl ?_
      refine lv_bipush (v := 10) hx hb dX8_odds_22 rfl ?_
      refine ro_i (run_S (As := [.int (c), .int (0), .int (10)]) (rest := []) hC.1 ckX8_within (kX8_within l c 0 10) (gw_in m_317 rfl) (fb_nil _) (fun _ _ _ => trivial) ⟨rfl, rfl, Nat.le_of_ble_eq_true rfl, Nat.le_of_ble_eq_true rfl⟩ rfl hl.1 rfl (Nat.le_of_ble_eq_true rfl) dX8_odds_24 ⟨Nat.le_of_ble_eq_true rfl, Nat.le_of_ble_eq_true rfl⟩) ?_
      refine lv_if_ne (tgt := 35) hx hb dX8_odds_27 (by decide) (fun c3 => ?_) (fun c3 => ?_)
      · skip
        have c3 := b2i_1 c3
        obtain ⟨K, hN6, hne⟩ := wth_nat (m := 6) (by omega) c2
        obtain ⟨D, hD10, hde⟩ := wth_nat (m := 10) (by omega) c3
        have hl : lv_has ls 11 [(0, .ref (x 0)), (1, .int (i)), (2, .int (j)), (3, .int (nI K)), (4, .int (c))] := by rw [← hne]; exact hl
        have hNc : cl n = K := by rw [hne]; exact cl_nI (by omega)
        have hDc : cl c = D := by rw [hde]; exact cl_nI (by omega)
        have h10 := pw10 hN6
        have hsum := wbN_le (r := r) (i := i) (j := j) (N := K) hD10 hN6
        have hwb : wbF r i j c K (2 ^ K) = lN (wbN r i j D K (2 ^ K)) := by rw [hde]; exact wb_lN hD10 hN6 _
        have hgp : 0 < Nat.gcd (wbN r i j D K (2 ^ K)) (10 ^ K) := Nat.gcd_pos_of_pos_right _ (Nat.pow_pos (by decide))
        have hgl : Nat.gcd (wbN r i j D K (2 ^ K)) (10 ^ K) ≤ 10 ^ K := Nat.gcd_le_right _ (Nat.pow_pos (by decide))
        refine lv_aload_n hx hb dX8_odds_35 rfl (lv_at hl 0 rfl) ?_
        refine kget hC.1 hK (kP_app.mp hP).1 0 rfl rfl in_8 3 (by decide) (gw_in m_285 rfl) rfl dX8_odds_36 ?_
        refine lv_aload_n hx hb dX8_odds_39 rfl (lv_at hl 0 rfl) ?_
        refine kget hC.1 hK (kP_app.mp hP).1 0 rfl rfl in_8 0 (by decide) (gw_in m_282 rfl) rfl dX8_odds_40 ?_
        refine kget hC.1 hK (kP_app.mp (kP_app.mp hP).2).1 0 rfl rfl in_1 0 (by decide) (gw_in m_180 rfl) rfl dX8_odds_43 ?_
        refine lv_iload_n hx hb dX8_odds_46 rfl (lv_at hl 1 rfl) ?_
        refine lv_iload_n hx hb dX8_odds_47 rfl (lv_at hl 2 rfl) ?_
        refine lv_iload_n hx hb dX8_odds_48 rfl (lv_at hl 3 rfl) ?_
        refine lv_iload hx hb dX8_odds_49 (lv_at hl 4 rfl) ?_
        have hP : kP g (tW g t (d 0) sg bs bc p1 p2 p3 p4 p5 ++ (yW g d rg ++ (yW g ay r ++ (cO g x (a 0) im te (t 0) gu ab be tb tn tf ++ (gW g a (ay 0) ps s1 s2 s3 ++ []))))) _ := kP_perm ((((((((pmA _ (pmA _ (pm_swap _ _ _))).trans (pmA _ (pm_swap _ _ _))).trans (pm_swap _ _ _)).trans (pmA _ (pmA _ (pmA _ (pm_swap _ _ _))))).trans (pmA _ (pmA _ (pm_swap _ _ _)))).trans (pmA _ (pm_swap _ _ _))).trans (pmA _ (pmA _ (pmA _ (pm_swap _ _ _))))).trans (pmA _ (pmA _ (pm_swap _ _ _)))) hP
        have hD : va_D _ (tW g t (d 0) sg bs bc p1 p2 p3 p4 p5 ++ (yW g d rg ++ (yW g ay r ++ (cO g x (a 0) im te (t 0) gu ab be tb tn tf ++ (gW g a (ay 0) ps s1 s2 s3 ++ []))))) := vD_perm ((((((((pmA _ (pmA _ (pm_swap _ _ _))).trans (pmA _ (pm_swap _ _ _))).trans (pm_swap _ _ _)).trans (pmA _ (pmA _ (pmA _ (pm_swap _ _ _))))).trans (pmA _ (pmA _ (pm_swap _ _ _)))).trans (pmA _ (pm_swap _ _ _))).trans (pmA _ (pmA _ (pmA _ (pm_swap _ _ _))))).trans (pmA _ (pmA _ (pm_swap _ _ _)))) hD
        refine rx_l (run_V (rm := rmN 5) (As := [.ref (ay 0), .int (i), .int (j), .int (nI K), .int (c)]) (rest := []) hC.1 ckX6_waysToBreak (kX6_waysToBreak_w l g t d sg bs bc p1 p2 p3 p4 p5 rg ay r i j K c hw hN6 hg) (gw_in m_856 rfl) (fb_rw _ _ _) (va_recv hK.1 (kP_app.mp hP).1 (q0 := 0) rfl rfl) (fun U hU hW => ⟨by rw [hU]; exact (kP_app.mpr ⟨(kP_app.mp hP).1, (kP_app.mpr ⟨(kP_app.mp (kP_app.mp hP).2).1, (kP_app.mpr ⟨(kP_app.mp (kP_app.mp (kP_app.mp hP).2).2).1, kP_nil⟩)⟩)⟩), kK_warm hW hK, vD_sub (sbA _ (sbA _ (sbA _ (sb0 _)))) hD⟩) ⟨rfl, rfl, Nat.le_of_ble_eq_true rfl, Nat.le_of_ble_eq_true rfl⟩ rfl hl.1 rfl (Nat.le_of_ble_eq_true rfl) dX8_odds_51 ⟨Nat.le_of_ble_eq_true rfl, Nat.le_of_ble_eq_true rfl⟩) (fun u => (adr_app rfl (adr_app yW_adr (adr_app rfl rfl)))) (asc3 _ _ _ _) (ww' := fun u9 : ({q : Nat → Int32 // Wf q}) => tW g t (d 0) sg bs bc p1 p2 p3 p4 p5 ++ (yW g d u9.1 ++ (yW g ay r ++ (cO g x (a 0) im te (t 0) gu ab be tb tn tf ++ (gW g a (ay 0) ps s1 s2 s3 ++ []))))) (fun u => asc3 _ _ _ _) hP hD hS (fun u H locs hP hD hS => ?_)
        obtain ⟨x4, rfl⟩ : ∃ z, z = u := ⟨_, rfl⟩
        have hP : kP g (tW g t (d 0) sg bs bc p1 p2 p3 p4 p5 ++ (yW g d x4.1 ++ (yW g ay r ++ (cO g x (a 0) im te (t 0) gu ab be tb tn tf ++ (gW g a (ay 0) ps s1 s2 s3 ++ []))))) H := hP
        have hD : va_D _ (tW g t (d 0) sg bs bc p1 p2 p3 p4 p5 ++ (yW g d x4.1 ++ (yW g ay r ++ (cO g x (a 0) im te (t 0) gu ab be tb tn tf ++ (gW g a (ay 0) ps s1 s2 s3 ++ []))))) := hD
        refine top_l (x := wbF r i j c K (2 ^ K)) (y := lN (wbN r i j D K (2 ^ K))) hwb ?_
        refine lv_lstore (lv' := [(5, .long (lN (wbN r i j D K (2 ^ K)))), (0, .ref (x 0)), (1, .int (i)), (2, .int (j)), (3, .int (nI K)), (4, .int (c))]) hx hb dX8_odds_54 hl (by decide) rfl (fun ls hl => ?_)
        refine lv_iload_n hx hb dX8_odds_56 rfl (lv_at hl 4 rfl) ?_
        refine ro_l (run_S (As := [.int (nI K)]) (rest := []) hC.1 ckX8_powerOfTen (kX8_powerOfTen l K hN6) (gw_in m_866 rfl) (fb_nil _) (fun _ _ _ => trivial) ⟨rfl, rfl, Nat.le_of_ble_eq_true rfl, Nat.le_of_ble_eq_true rfl⟩ rfl hl.1 rfl (Nat.le_of_ble_eq_true rfl) dX8_odds_57 ⟨Nat.le_of_ble_eq_true rfl, Nat.le_of_ble_eq_true rfl⟩) ?_
        refine lv_lstore (lv' := [(7, .long (lN (10 ^ K))), (5, .long (lN (wbN r i j D K (2 ^ K)))), (0, .ref (x 0)), (1, .int (i)), (2, .int (j)), (3, .int (nI K)), (4, .int (c))]) hx hb dX8_odds_60 hl (by decide) rfl (fun ls hl => ?_)
        refine lv_lload hx hb dX8_odds_62 (lv_at hl 1 rfl) ?_
        refine lv_lload hx hb dX8_odds_64 (lv_at hl 0 rfl) ?_
        refine ro_l (run_S (As := [.long (lN (wbN r i j D K (2 ^ K))), .long (lN (10 ^ K))]) (rest := []) hC.1 ckX8_commonDivisor (kX8_commonDivisor l (wbN r i j D K (2 ^ K)) (10 ^ K) (by omega) (by omega)) (gw_in m_870 rfl) (fb_nil _) (fun _ _ _ => trivial) ⟨rfl, rfl, Nat.le_of_ble_eq_true rfl, Nat.le_of_ble_eq_true rfl⟩ rfl hl.1 rfl (Nat.le_of_ble_eq_true rfl) dX8_odds_66 ⟨Nat.le_of_ble_eq_true rfl, Nat.le_of_ble_eq_true rfl⟩) ?_
        refine lv_lstore (lv' := [(9, .long (lN (Nat.gcd (wbN r i j D K (2 ^ K)) (10 ^ K)))), (7, .long (lN (10 ^ K))), (5, .long (lN (wbN r i j D K (2 ^ K)))), (0, .ref (x 0)), (1, .int (i)), (2, .int (j)), (3, .int (nI K)), (4, .int (c))]) hx hb dX8_odds_69 hl (by decide) rfl (fun ls hl => ?_)
        refine lv_lload hx hb dX8_odds_71 (lv_at hl 0 rfl) ?_
        refine lv_lconst (v := 0) hx hb dX8_odds_73 rfl ?_
        refine W.lcmp hx hb dX8_odds_74 ?_
        refine lv_if_le (tgt := 96) hx hb dX8_odds_75 (by decide) (fun c5 => ?_) (fun c5 => ?_)
        · skip
          have c5' := Int32.not_lt.mpr c5
          exact absurd c5 (cmp_pos (by omega) (by omega))
        · skip
          have c5' := Int32.not_le.mp c5
          refine lv_aload_n hx hb dX8_odds_78 rfl (lv_at hl 3 rfl) ?_
          refine lv_lload hx hb dX8_odds_79 (lv_at hl 2 rfl) ?_
          refine lv_lload hx hb dX8_odds_81 (lv_at hl 0 rfl) ?_
          refine lv_ldiv hx hb dX8_odds_83 (lN_ne0 (by omega) (by omega)) ?_
          refine top_l (x := (lN (wbN r i j D K (2 ^ K))) / (lN (Nat.gcd (wbN r i j D K (2 ^ K)) (10 ^ K)))) (y := lN (wbN r i j D K (2 ^ K) / Nat.gcd (wbN r i j D K (2 ^ K)) (10 ^ K))) (pk_lDiv (by omega) (by omega) (by omega)) ?_
          have hP : kP g (cO g x (a 0) im te (t 0) gu ab be tb tn tf ++ (tW g t (d 0) sg bs bc p1 p2 p3 p4 p5 ++ (yW g d x4.1 ++ (yW g ay r ++ (gW g a (ay 0) ps s1 s2 s3 ++ []))))) _ := kP_perm (((pmA _ (pmA _ (pm_swap _ _ _))).trans (pmA _ (pm_swap _ _ _))).trans (pm_swap _ _ _)) hP
          have hD : va_D _ (cO g x (a 0) im te (t 0) gu ab be tb tn tf ++ (tW g t (d 0) sg bs bc p1 p2 p3 p4 p5 ++ (yW g d x4.1 ++ (yW g ay r ++ (gW g a (ay 0) ps s1 s2 s3 ++ []))))) := vD_perm (((pmA _ (pmA _ (pm_swap _ _ _))).trans (pmA _ (pm_swap _ _ _))).trans (pm_swap _ _ _)) hD
          refine kput (B' := cO g x (a 0) im te (t 0) gu (lN (wbN r i j D K (2 ^ K) / Nat.gcd (wbN r i j D K (2 ^ K)) (10 ^ K))) be tb tn tf) hC.1 hK hP hD hS 0 rfl rfl in_8 tyX8 tyX8_ok nmX8 5 (by decide) (gw_in m_287 rfl) rfl (ty := .long) (by decide +kernel) rfl rfl (Nat.le_of_ble_eq_true rfl) (fun _ h => h) cO_adr dX8_odds_84 (fun H locs hP hD hS => ?_)
          refine lv_aload_n hx hb dX8_odds_87 rfl (lv_at hl 3 rfl) ?_
          refine lv_lload hx hb dX8_odds_88 (lv_at hl 1 rfl) ?_
          refine lv_lload hx hb dX8_odds_90 (lv_at hl 0 rfl) ?_
          refine lv_ldiv hx hb dX8_odds_92 (lN_ne0 (by omega) (by omega)) ?_
          refine top_l (x := (lN (10 ^ K)) / (lN (Nat.gcd (wbN r i j D K (2 ^ K)) (10 ^ K)))) (y := lN (10 ^ K / Nat.gcd (wbN r i j D K (2 ^ K)) (10 ^ K))) (pk_lDiv (by omega) (by omega) (by omega)) ?_
          refine kput (B' := cO g x (a 0) im te (t 0) gu (lN (wbN r i j D K (2 ^ K) / Nat.gcd (wbN r i j D K (2 ^ K)) (10 ^ K))) (lN (10 ^ K / Nat.gcd (wbN r i j D K (2 ^ K)) (10 ^ K))) tb tn tf) hC.1 hK hP hD hS 0 rfl rfl in_8 tyX8 tyX8_ok nmX8 6 (by decide) (gw_in m_288 rfl) rfl (ty := .long) (by decide +kernel) rfl rfl (Nat.le_of_ble_eq_true rfl) (fun _ h => h) cO_adr dX8_odds_93 (fun H locs hP hD hS => ?_)
          refine lv_iconst (v := 1) hx hb dX8_odds_96 rfl ?_
          have hP : kP g (cO g x (a 0) im te (t 0) gu (lN (wbN r i j D K (2 ^ K) / Nat.gcd (wbN r i j D K (2 ^ K)) (10 ^ K))) (lN (10 ^ K / Nat.gcd (wbN r i j D K (2 ^ K)) (10 ^ K))) tb tn tf ++ (gW g a (ay 0) ps s1 s2 s3 ++ (yW g ay r ++ (tW g t (d 0) sg bs bc p1 p2 p3 p4 p5 ++ (yW g d x4.1 ++ []))))) _ := kP_perm (((((pmA _ (pmA _ (pmA _ (pm_swap _ _ _)))).trans (pmA _ (pmA _ (pm_swap _ _ _)))).trans (pmA _ (pm_swap _ _ _))).trans (pmA _ (pmA _ (pmA _ (pm_swap _ _ _))))).trans (pmA _ (pmA _ (pm_swap _ _ _)))) hP
          have hD : va_D _ (cO g x (a 0) im te (t 0) gu (lN (wbN r i j D K (2 ^ K) / Nat.gcd (wbN r i j D K (2 ^ K)) (10 ^ K))) (lN (10 ^ K / Nat.gcd (wbN r i j D K (2 ^ K)) (10 ^ K))) tb tn tf ++ (gW g a (ay 0) ps s1 s2 s3 ++ (yW g ay r ++ (tW g t (d 0) sg bs bc p1 p2 p3 p4 p5 ++ (yW g d x4.1 ++ []))))) := vD_perm (((((pmA _ (pmA _ (pmA _ (pm_swap _ _ _)))).trans (pmA _ (pmA _ (pm_swap _ _ _)))).trans (pmA _ (pm_swap _ _ _))).trans (pmA _ (pmA _ (pmA _ (pm_swap _ _ _))))).trans (pmA _ (pmA _ (pm_swap _ _ _)))) hD
          exact ret_rxi (S := ({q : Nat → Int32 // Wf q})) x4 hx hb hr hlk (by rw [if_pos (show (yNut r i && yNut r j && decide (¬ i = j) && wth n 0 6 && wth c 0 10) = true from by simp only [c1, c2, c3]; rfl)]) (kP_eq (by rw [if_pos (show (yNut r i && yNut r j && decide (¬ i = j) && wth n 0 6 && wth c 0 10) = true from by simp only [c1, c2, c3]; rfl), if_pos (show (yNut r i && yNut r j && decide (¬ i = j) && wth n 0 6 && wth c 0 10) = true from by simp only [c1, c2, c3]; rfl), if_pos (show (yNut r i && yNut r j && decide (¬ i = j) && wth n 0 6 && wth c 0 10) = true from by simp only [c1, c2, c3]; rfl), hNc, hDc]) hP) hS dX8_odds_97
      · skip
        have c3 := b2i_0 c3
        refine lv_aload_n hx hb dX8_odds_30 rfl (lv_at hl 0 rfl) ?_
        refine rw_i (run_V (As := []) (rest := []) hC.1 ckX8_bad (kX8_bad l g x (a 0) im te (t 0) gu ab be tb tn tf) (gw_in m_320 rfl) (fb_rw _ _ _) (va_recv hK.1 (kP_app.mp hP).1 (q0 := 0) rfl rfl) (fun U hU hW => ⟨by rw [hU]; exact (kP_app.mpr ⟨(kP_app.mp hP).1, kP_nil⟩), kK_warm hW hK, vD_sub (sbA _ (sb0 _)) hD⟩) ⟨rfl, rfl, Nat.le_of_ble_eq_true rfl, Nat.le_of_ble_eq_true rfl⟩ rfl hl.1 rfl (Nat.le_of_ble_eq_true rfl) dX8_odds_31 ⟨Nat.le_of_ble_eq_true rfl, Nat.le_of_ble_eq_true rfl⟩) (adr_app cO_adr rfl) (asc1 _ _) (ww' := cO g x (a 0) im te (t 0) gu ab be (tb + 1) tn tf ++ (gW g a (ay 0) ps s1 s2 s3 ++ (yW g ay r ++ (tW g t (d 0) sg bs bc p1 p2 p3 p4 p5 ++ (yW g d rg ++ []))))) (asc1 _ _) hP hD hS (fun H locs hP hD hS => ?_)
        exact ret_rxi (S := ({q : Nat → Int32 // Wf q})) (⟨rg, hg⟩) hx hb hr hlk (by simp only [c1, c2, c3, if_true, if_false, eq_self, Bool.false_eq_true, Bool.and_true, Bool.true_and, Bool.and_false, Bool.false_and]) (kP_eq (by simp only [c1, c2, c3, if_true, if_false, eq_self, Bool.false_eq_true, Bool.and_true, Bool.true_and, Bool.and_false, Bool.false_and]) hP) hS dX8_odds_34
