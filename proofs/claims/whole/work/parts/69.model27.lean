theorem ckX9_layGains : ckV yX9_layGains cX9_layGains 6 none 2 := ⟨(gw_in m_1342 rfl), (gw_in m_71 rfl), ⟨(gw_in m_1341 rfl), (gw_in m_56 rfl)⟩, by decide +kernel, by decide +kernel, by decide +kernel⟩
theorem ckX9_rests : ckV yX9_rests cX9_rests 10 (some .boolean) 3 := ⟨(gw_in m_1346 rfl), (gw_in m_71 rfl), ⟨(gw_in m_1345 rfl), (gw_in m_57 rfl)⟩, by decide +kernel, by decide +kernel, by decide +kernel⟩
theorem ckX9_pair : ckV yX9_pair cX9_pair 8 (some .int) 3 := ⟨(gw_in m_1338 rfl), (gw_in m_71 rfl), ⟨(gw_in m_1336 rfl), (gw_in m_1337 rfl)⟩, by decide +kernel, by decide +kernel, by decide +kernel⟩
def gnA (z r : Nat → Int32) (i : Int32) : Int32 := 3 * (z (39 + cl i) - r (39 + cl i)) - z (33 + cl i) + r (33 + cl i)
/-- what both get by a bout of each two -/
def gnF (r : Nat → Int32) (mi th : Int32) (gn : Nat → Int32) : Nat → Nat → Int32
  | 0 => gn
  | n + 1 => if hasB mi (nI (n / 6)) = true then (if hasB th (nI (n % 6)) = true then upd (upd (gnF r mi th gn n) (2 * n) (gnA (btF true (nI (n / 6)) (nI (n % 6)) 60 0 r).2 r (nI (n / 6)))) (2 * n + 1) (gnA (btF true (nI (n / 6)) (nI (n % 6)) 60 0 r).2 r (nI (n % 6))) else gnF r mi th gn n) else gnF r mi th gn n
def rsQ (mi th : Int32) (gn : Nat → Int32) (C k : Nat) : Bool := !(hasB mi (nI k) && decide (gn (2 * C) < gn (2 * (6 * k + C % 6)))) && !(hasB th (nI k) && decide (gn (2 * C + 1) < gn (2 * (6 * (C / 6) + k) + 1)))
def rsL (mi th : Int32) (gn : Nat → Int32) (C : Nat) : Nat → Bool
  | 0 => hasB mi (nI (C / 6)) && hasB th (nI (C % 6))
  | k + 1 => rsL mi th gn C k && rsQ mi th gn C k
theorem rsL_st {mi th : Int32} {gn : Nat → Int32} {C n : Nat} (h : rsL mi th gn C n = false) : ∀ k, rsL mi th gn C (n + k) = false
  | 0 => h
  | k + 1 => by show (rsL mi th gn C (n + k) && _) = false; rw [rsL_st h k]; rfl
theorem rsL_stop {mi th : Int32} {gn : Nat → Int32} {C n : Nat} (h : rsL mi th gn C n = false) (hn : n ≤ 6) : rsL mi th gn C 6 = rsL mi th gn C n := by
  have := rsL_st h (6 - n)
  rw [show n + (6 - n) = 6 by omega] at this
  rw [this, h]
def prC (p : Nat → Bool) : Nat → Nat
  | 0 => 0
  | C + 1 => if p C = true then prC p C + 1 else prC p C
def prX (p : Nat → Bool) (k : Int32) : Int32 := if fstN (fun z => p z && decide (nI (prC p z) = k)) 36 = -1 then (if k = -1 then nI (prC p 36) else -5) else nI (10 * (cl (fstN (fun z => p z && decide (nI (prC p z) = k)) 36) / 6) + cl (fstN (fun z => p z && decide (nI (prC p z) = k)) 36) % 6)
theorem nI_ne1 {n : Nat} (h : n < 2147483648) : ¬ nI n = -1 := by
  intro e
  have := congrArg Int32.toInt e
  rw [nI_ti h, show (-1 : Int32).toInt = -1 from rfl] at this
  omega
set_option maxHeartbeats 4000000 in
set_option maxRecDepth 100000 in
theorem kX9_layGains (l : Launch) (g : gG) (o : Nat → Nat) (ab be : Int64) (lm ra ta : Nat) (ti fa : Int32) (um ua : Nat) (hh : Int64) (r tr gn : Nat → Int32) (mi th : Int32) (hw : Wf r) : Met l yX9_layGains (.code yX9_layGains cX9_layGains 6 none :: gw) (rmN 4) (va_Pc [.ref (o 0), .int (mi), .int (th)] (rwPre g (mO g o ab be lm ra ta ti fa um ua hh ++ (aW g (o 2) 45 r ++ (aW g (o 3) 45 tr ++ (aW g (o 8) 72 gn ++ [])))))) (rxQv g (mO g o ab be lm ra ta ti fa um ua hh ++ (aW g (o 2) 45 r ++ (aW g (o 3) 45 tr ++ (aW g (o 8) 72 gn ++ [])))) (fun u9 : (Nat → Int32) => mO g o ab be lm ra ta ti fa um ua hh ++ (aW g (o 2) 45 r ++ (aW g (o 3) 45 u9 ++ (aW g (o 8) 72 (gnF r mi th gn 36) ++ []))))) 0 0 (dm (mO g o ab be lm ra ta ti fa um ua hh ++ (aW g (o 2) 45 r ++ (aW g (o 3) 45 tr ++ (aW g (o 8) 72 gn ++ []))))) := by
  refine met_start (by decide) (Nat.le_of_ble_eq_true rfl) ?_
  intro pp ee ss mm bl mt cd hC hpre ls hl
  obtain ⟨⟨hx, hb, hml, hown, hts⟩, hr, hlk, hnm⟩ := id hC
  have hl : lv_has ls 6 [(0, .ref (o 0)), (1, .int (mi)), (2, .int (th))] := hl
  obtain ⟨hP, hK, hD⟩ := hpre
  have hS : va_S (dm (mO g o ab be lm ra ta ti fa um ua hh ++ (aW g (o 2) 45 r ++ (aW g (o 3) 45 tr ++ (aW g (o 8) 72 gn ++ []))))) ss.heap ss.heap [] := va_S.rf
  have hD := vD_self hD
  refine lv_iconst (v := 0) hx hb dX9_layGains_0 rfl ?_
  refine lv_istore_n (lv' := [(3, .int (0)), (0, .ref (o 0)), (1, .int (mi)), (2, .int (th))]) hx hb dX9_layGains_1 rfl hl (by decide) rfl (fun ls hl => ?_)
  have cut2 : ∀ kk : Nat, ∀ (n : Nat) (tx9 : Nat → Int32), 37 - n < kk → (hn : n ≤ 36) → ∀ (H : Heap) (locs : List Loc), kP g (mO g o ab be lm ra ta ti fa um ua hh ++ (aW g (o 2) 45 r ++ (aW g (o 3) 45 tx9 ++ (aW g (o 8) 72 (gnF r mi th gn n) ++ [])))) H → va_D (dm (mO g o ab be lm ra ta ti fa um ua hh ++ (aW g (o 2) 45 r ++ (aW g (o 3) 45 tr ++ (aW g (o 8) 72 gn ++ []))))) (mO g o ab be lm ra ta ti fa um ua hh ++ (aW g (o 2) 45 r ++ (aW g (o 3) 45 tx9 ++ (aW g (o 8) 72 (gnF r mi th gn n) ++ [])))) → va_S (dm (mO g o ab be lm ra ta ti fa um ua hh ++ (aW g (o 2) 45 r ++ (aW g (o 3) 45 tr ++ (aW g (o 8) 72 gn ++ []))))) ss.heap H locs → ∀ (ls : Array Slot), lv_has ls 6 [(0, .ref (o 0)), (1, .int (mi)), (2, .int (th)), (3, .int (nI n))] → W pp l ee (rmN 4) ss mm ([.ref (o 0), .int (mi), .int (th)] : List Value).toArray bl mt cd H locs 0 0 (MQ bl (rxQv g (mO g o ab be lm ra ta ti fa um ua hh ++ (aW g (o 2) 45 r ++ (aW g (o 3) 45 tr ++ (aW g (o 8) 72 gn ++ [])))) (fun u9 : (Nat → Int32) => mO g o ab be lm ra ta ti fa um ua hh ++ (aW g (o 2) 45 r ++ (aW g (o 3) 45 u9 ++ (aW g (o 8) 72 (gnF r mi th gn 36) ++ []))))) ([.ref (o 0), .int (mi), .int (th)] : List Value).toArray ss 0 0 (dm (mO g o ab be lm ra ta ti fa um ua hh ++ (aW g (o 2) 45 r ++ (aW g (o 3) 45 tr ++ (aW g (o 8) 72 gn ++ [])))))) (F0 mm 2 ls []) := by
    intro kk
    induction kk with
    | zero => intro n tx9 hmu; exact absurd hmu (Nat.not_lt_zero _)
    | succ kk ih2 =>
      intro n tx9 hmu hn H locs hP hD hS ls hl
      refine lv_iload_n hx hb dX9_layGains_2 rfl (lv_at hl 3 rfl) ?_
      refine lv_bipush (v := 36) hx hb dX9_layGains_3 rfl ?_
      refine lv_icmp_ge (tgt := 176) hx hb dX9_layGains_5 (by decide) (fun c1 => ?_) (fun c1 => ?_)
      · skip
        have c1' := Int32.not_lt.mpr c1
        have hn9 : n = 36 := by have := lp_ge (by omega) c1; rw [show (36 : Int32).toInt = 36 from rfl] at this; omega
        subst hn9
        exact ret_rxv (S := (Nat → Int32)) tx9 hx hb hr hlk (hP) hS dX9_layGains_176
      · skip
        have c1' := Int32.not_le.mp c1
        have hn9 : n < 36 := by have := lp_lt (by omega) c1; rw [show (36 : Int32).toInt = 36 from rfl] at this; omega
        refine lv_iload_n hx hb dX9_layGains_8 rfl (lv_at hl 3 rfl) ?_
        refine lv_bipush (v := 6) hx hb dX9_layGains_9 rfl ?_
        refine lv_idiv hx hb dX9_layGains_11 (by decide) ?_
        refine top_i (x := (nI n) / 6) (y := nI (n / 6)) (pk_div (d := 6) (by omega) (by omega) (by omega)) ?_
        refine lv_istore (lv' := [(4, .int (nI (n / 6))), (0, .ref (o 0)), (1, .int (mi)), (2, .int (th)), (3, .int (nI n))]) hx hb dX9_layGains_12 hl (by decide) rfl (fun ls hl => ?_)
        refine lv_iload_n hx hb dX9_layGains_14 rfl (lv_at hl 4 rfl) ?_
        refine lv_bipush (v := 6) hx hb dX9_layGains_15 rfl ?_
        refine lv_irem hx hb dX9_layGains_17 (by decide) ?_
        refine top_i (x := (nI n) - (nI n) / 6 * 6) (y := nI (n % 6)) (pk_rem (d := 6) (by omega) (by omega) (by omega)) ?_
        refine lv_istore (lv' := [(5, .int (nI (n % 6))), (4, .int (nI (n / 6))), (0, .ref (o 0)), (1, .int (mi)), (2, .int (th)), (3, .int (nI n))]) hx hb dX9_layGains_18 hl (by decide) rfl (fun ls hl => ?_)
        refine lv_iload_n hx hb dX9_layGains_20 rfl (lv_at hl 3 rfl) ?_
        refine lv_iload hx hb dX9_layGains_21 (lv_at hl 1 rfl) ?_
        refine ro_i (run_S (As := [.int (mi), .int (nI (n / 6))]) (rest := []) hC.1 ckX9_has (kX9_has l mi (nI (n / 6))) (gw_in m_1225 rfl) (fb_nil _) (fun _ _ _ => trivial) ⟨rfl, rfl, Nat.le_of_ble_eq_true rfl, Nat.le_of_ble_eq_true rfl⟩ rfl hl.1 rfl (Nat.le_of_ble_eq_true rfl) dX9_layGains_23 ⟨Nat.le_of_ble_eq_true rfl, Nat.le_of_ble_eq_true rfl⟩) ?_
        refine lv_if_eq (tgt := 170) hx hb dX9_layGains_26 (by decide) (fun c2 => ?_) (fun c2 => ?_)
        · skip
          have c2 := b2i_0 c2
          refine lv_iinc (v := nI (n + 1)) (lv' := [(3, .int (nI (n + 1))), (5, .int (nI (n % 6))), (4, .int (nI (n / 6))), (0, .ref (o 0)), (1, .int (mi)), (2, .int (th))]) hx hb dX9_layGains_170 hl (k := 5) rfl (inc_nI n) (by decide) rfl (fun ls hl => ?_)
          refine lv_goto (tgt := 2) hx hb dX9_layGains_173 (by decide) ?_
          have e9 : gnF r mi th gn (n + 1) = (gnF r mi th gn n) := if_neg (by rw [c2]; decide)
          have hP : kP g (mO g o ab be lm ra ta ti fa um ua hh ++ (aW g (o 2) 45 r ++ (aW g (o 3) 45 tx9 ++ (aW g (o 8) 72 (gnF r mi th gn (n + 1)) ++ [])))) _ := kP_eq (by rw [e9]) hP
          have hD : va_D _ (mO g o ab be lm ra ta ti fa um ua hh ++ (aW g (o 2) 45 r ++ (aW g (o 3) 45 tx9 ++ (aW g (o 8) 72 (gnF r mi th gn (n + 1)) ++ [])))) := vD_eq (by rw [e9]) hD
          exact ih2 (n + 1) tx9 (by omega) (by omega) _ _ hP hD hS _ (lv_sub hl [3, 4, 5, 0] rfl)
        · skip
          have c2 := b2i_1 c2
          refine lv_iload_n hx hb dX9_layGains_29 rfl (lv_at hl 4 rfl) ?_
          refine lv_iload hx hb dX9_layGains_30 (lv_at hl 0 rfl) ?_
          refine ro_i (run_S (As := [.int (th), .int (nI (n % 6))]) (rest := []) hC.1 ckX9_has (kX9_has l th (nI (n % 6))) (gw_in m_1225 rfl) (fb_nil _) (fun _ _ _ => trivial) ⟨rfl, rfl, Nat.le_of_ble_eq_true rfl, Nat.le_of_ble_eq_true rfl⟩ rfl hl.1 rfl (Nat.le_of_ble_eq_true rfl) dX9_layGains_32 ⟨Nat.le_of_ble_eq_true rfl, Nat.le_of_ble_eq_true rfl⟩) ?_
          refine lv_if_eq (tgt := 170) hx hb dX9_layGains_35 (by decide) (fun c3 => ?_) (fun c3 => ?_)
          · skip
            have c3 := b2i_0 c3
            refine lv_iinc (v := nI (n + 1)) (lv' := [(3, .int (nI (n + 1))), (5, .int (nI (n % 6))), (4, .int (nI (n / 6))), (0, .ref (o 0)), (1, .int (mi)), (2, .int (th))]) hx hb dX9_layGains_170 hl (k := 5) rfl (inc_nI n) (by decide) rfl (fun ls hl => ?_)
            refine lv_goto (tgt := 2) hx hb dX9_layGains_173 (by decide) ?_
            have e9 : gnF r mi th gn (n + 1) = (gnF r mi th gn n) := (if_pos c2).trans (if_neg (by rw [c3]; decide))
            have hP : kP g (mO g o ab be lm ra ta ti fa um ua hh ++ (aW g (o 2) 45 r ++ (aW g (o 3) 45 tx9 ++ (aW g (o 8) 72 (gnF r mi th gn (n + 1)) ++ [])))) _ := kP_eq (by rw [e9]) hP
            have hD : va_D _ (mO g o ab be lm ra ta ti fa um ua hh ++ (aW g (o 2) 45 r ++ (aW g (o 3) 45 tx9 ++ (aW g (o 8) 72 (gnF r mi th gn (n + 1)) ++ [])))) := vD_eq (by rw [e9]) hD
            exact ih2 (n + 1) tx9 (by omega) (by omega) _ _ hP hD hS _ (lv_sub hl [3, 4, 5, 0] rfl)
          · skip
            have c3 := b2i_1 c3
            refine lv_aload_n hx hb dX9_layGains_38 rfl (lv_at hl 2 rfl) ?_
            refine kget hC.1 hK (kP_app.mp hP).1 0 rfl rfl in_9 3 (by decide) (gw_in m_963 rfl) rfl dX9_layGains_39 ?_
            refine lv_aload_n hx hb dX9_layGains_42 rfl (lv_at hl 2 rfl) ?_
            refine kget hC.1 hK (kP_app.mp hP).1 0 rfl rfl in_9 4 (by decide) (gw_in m_964 rfl) rfl dX9_layGains_43 ?_
            have hP : kP g (aW g (o 2) 45 r ++ (aW g (o 3) 45 tx9 ++ (mO g o ab be lm ra ta ti fa um ua hh ++ (aW g (o 8) 72 (gnF r mi th gn n) ++ [])))) _ := kP_perm ((pm_swap _ _ _).trans (pmA _ (pm_swap _ _ _))) hP
            have hD : va_D _ (aW g (o 2) 45 r ++ (aW g (o 3) 45 tx9 ++ (mO g o ab be lm ra ta ti fa um ua hh ++ (aW g (o 8) 72 (gnF r mi th gn n) ++ [])))) := vD_perm ((pm_swap _ _ _).trans (pmA _ (pm_swap _ _ _))) hD
            refine rw_v (run_S (As := [.ref (o 2), .ref (o 3)]) (rest := []) hC.1 ckX9_copies (kX9_copies l g (o 2) (o 3) r tx9) (gw_in m_1175 rfl) (fb_rw _ _ _) (fun U hU hW => ⟨by rw [hU]; exact (kP_app.mpr ⟨(kP_app.mp hP).1, (kP_app.mpr ⟨(kP_app.mp (kP_app.mp hP).2).1, kP_nil⟩)⟩), kK_warm hW hK, vD_sub (sbA _ (sbA _ (sb0 _))) hD⟩) ⟨rfl, rfl, Nat.le_of_ble_eq_true rfl, Nat.le_of_ble_eq_true rfl⟩ rfl hl.1 rfl (Nat.le_of_ble_eq_true rfl) dX9_layGains_46 ⟨Nat.le_of_ble_eq_true rfl, Nat.le_of_ble_eq_true rfl⟩) (adr_app rfl (adr_app aW_adr rfl)) (asc2 _ _ _) (ww' := aW g (o 2) 45 r ++ (aW g (o 3) 45 r ++ (mO g o ab be lm ra ta ti fa um ua hh ++ (aW g (o 8) 72 (gnF r mi th gn n) ++ [])))) (asc2 _ _ _) hP hD hS (fun H locs hP hD hS => ?_)
            refine lv_aload_n hx hb dX9_layGains_49 rfl (lv_at hl 2 rfl) ?_
            refine kget hC.1 hK (kP_app.mp (kP_app.mp (kP_app.mp hP).2).2).1 0 rfl rfl in_9 4 (by decide) (gw_in m_964 rfl) rfl dX9_layGains_50 ?_
            refine lv_iload hx hb dX9_layGains_53 (lv_at hl 1 rfl) ?_
            refine lv_iload hx hb dX9_layGains_55 (lv_at hl 0 rfl) ?_
            refine lv_iconst (v := 1) hx hb dX9_layGains_57 rfl ?_
            have hP : kP g (aW g (o 3) 45 r ++ (aW g (o 2) 45 r ++ (mO g o ab be lm ra ta ti fa um ua hh ++ (aW g (o 8) 72 (gnF r mi th gn n) ++ [])))) _ := kP_perm (pm_swap _ _ _) hP
            have hD : va_D _ (aW g (o 3) 45 r ++ (aW g (o 2) 45 r ++ (mO g o ab be lm ra ta ti fa um ua hh ++ (aW g (o 8) 72 (gnF r mi th gn n) ++ [])))) := vD_perm (pm_swap _ _ _) hD
            refine rw_i (run_S (As := [.ref (o 3), .int (nI (n / 6)), .int (nI (n % 6)), .int (1)]) (rest := []) hC.1 ckX9_bouts (kX9_bouts l g (o 3) r (nI (n / 6)) (nI (n % 6)) true hw (vp_in_nI (show n / 6 < 6 by omega) (by omega)) (vp_in_nI (show n % 6 < 6 by omega) (by omega))) (gw_in m_1240 rfl) (fb_rw _ _ _) (fun U hU hW => ⟨by rw [hU]; exact (kP_app.mpr ⟨(kP_app.mp hP).1, kP_nil⟩), kK_warm hW hK, vD_sub (sbA _ (sb0 _)) hD⟩) ⟨rfl, rfl, Nat.le_of_ble_eq_true rfl, Nat.le_of_ble_eq_true rfl⟩ rfl hl.1 rfl (Nat.le_of_ble_eq_true rfl) dX9_layGains_58 ⟨Nat.le_of_ble_eq_true rfl, Nat.le_of_ble_eq_true rfl⟩) (adr_app aW_adr rfl) (asc1 _ _) (ww' := aW g (o 3) 45 (btF true (nI (n / 6)) (nI (n % 6)) 60 0 r).2 ++ (aW g (o 2) 45 r ++ (mO g o ab be lm ra ta ti fa um ua hh ++ (aW g (o 8) 72 (gnF r mi th gn n) ++ [])))) (asc1 _ _) hP hD hS (fun H locs hP hD hS => ?_)
            refine lv_pop hx hb dX9_layGains_61 rfl ?_
            refine lv_aload_n hx hb dX9_layGains_62 rfl (lv_at hl 2 rfl) ?_
            refine kget hC.1 hK (kP_app.mp (kP_app.mp (kP_app.mp hP).2).2).1 0 rfl rfl in_9 16 (by decide) (gw_in m_976 rfl) rfl dX9_layGains_63 ?_
            refine lv_iconst (v := 2) hx hb dX9_layGains_66 rfl ?_
            refine lv_iload_n hx hb dX9_layGains_67 rfl (lv_at hl 5 rfl) ?_
            refine lv_imul hx hb dX9_layGains_68 ?_
            refine top_i (x := 2 * (nI n)) (y := nI (2 * n)) (show nI 2 * nI n = _ from pk_mul 2 n) ?_
            refine lv_iconst (v := 3) hx hb dX9_layGains_69 rfl ?_
            refine lv_aload_n hx hb dX9_layGains_70 rfl (lv_at hl 2 rfl) ?_
            refine kget hC.1 hK (kP_app.mp (kP_app.mp (kP_app.mp hP).2).2).1 0 rfl rfl in_9 4 (by decide) (gw_in m_964 rfl) rfl dX9_layGains_71 ?_
            refine lv_bipush (v := 39) hx hb dX9_layGains_74 rfl ?_
            refine lv_iload hx hb dX9_layGains_76 (lv_at hl 1 rfl) ?_
            refine lv_iadd hx hb dX9_layGains_78 ?_
            refine kald (v := (btF true (nI (n / 6)) (nI (n % 6)) 60 0 r).2 (39 + cl (nI (n / 6)))) hC.1 hK (kP_app.mp hP).1 0 rfl (ix_in (K := 39) (vp_in_nI (show n / 6 < 6 by omega) (by omega)) (by omega) (by omega)) (congrArg (btF true (nI (n / 6)) (nI (n % 6)) 60 0 r).2 (show cl (39 + (nI (n / 6))) = 39 + cl (nI (n / 6)) from ix_cl (K := 39) (vp_in_nI (show n / 6 < 6 by omega) (by omega)) (by omega))) dX9_layGains_79 ?_
            refine lv_aload_n hx hb dX9_layGains_80 rfl (lv_at hl 2 rfl) ?_
            refine kget hC.1 hK (kP_app.mp (kP_app.mp (kP_app.mp hP).2).2).1 0 rfl rfl in_9 3 (by decide) (gw_in m_963 rfl) rfl dX9_layGains_81 ?_
            refine lv_bipush (v := 39) hx hb dX9_layGains_84 rfl ?_
            refine lv_iload hx hb dX9_layGains_86 (lv_at hl 1 rfl) ?_
            refine lv_iadd hx hb dX9_layGains_88 ?_
            refine kald (v := r (39 + cl (nI (n / 6)))) hC.1 hK (kP_app.mp (kP_app.mp hP).2).1 0 rfl (ix_in (K := 39) (vp_in_nI (show n / 6 < 6 by omega) (by omega)) (by omega) (by omega)) (congrArg r (show cl (39 + (nI (n / 6))) = 39 + cl (nI (n / 6)) from ix_cl (K := 39) (vp_in_nI (show n / 6 < 6 by omega) (by omega)) (by omega))) dX9_layGains_89 ?_
            refine lv_isub hx hb dX9_layGains_90 ?_
            refine lv_imul hx hb dX9_layGains_91 ?_
            refine lv_aload_n hx hb dX9_layGains_92 rfl (lv_at hl 2 rfl) ?_
            refine kget hC.1 hK (kP_app.mp (kP_app.mp (kP_app.mp hP).2).2).1 0 rfl rfl in_9 4 (by decide) (gw_in m_964 rfl) rfl dX9_layGains_93 ?_
            refine lv_bipush (v := 33) hx hb dX9_layGains_96 rfl ?_
            refine lv_iload hx hb dX9_layGains_98 (lv_at hl 1 rfl) ?_
            refine lv_iadd hx hb dX9_layGains_100 ?_
            refine kald (v := (btF true (nI (n / 6)) (nI (n % 6)) 60 0 r).2 (33 + cl (nI (n / 6)))) hC.1 hK (kP_app.mp hP).1 0 rfl (ix_in (K := 33) (vp_in_nI (show n / 6 < 6 by omega) (by omega)) (by omega) (by omega)) (congrArg (btF true (nI (n / 6)) (nI (n % 6)) 60 0 r).2 (show cl (33 + (nI (n / 6))) = 33 + cl (nI (n / 6)) from ix_cl (K := 33) (vp_in_nI (show n / 6 < 6 by omega) (by omega)) (by omega))) dX9_layGains_101 ?_
            refine lv_isub hx hb dX9_layGains_102 ?_
            refine lv_aload_n hx hb dX9_layGains_103 rfl (lv_at hl 2 rfl) ?_
            refine kget hC.1 hK (kP_app.mp (kP_app.mp (kP_app.mp hP).2).2).1 0 rfl rfl in_9 3 (by decide) (gw_in m_963 rfl) rfl dX9_layGains_104 ?_
            refine lv_bipush (v := 33) hx hb dX9_layGains_107 rfl ?_
            refine lv_iload hx hb dX9_layGains_109 (lv_at hl 1 rfl) ?_
            refine lv_iadd hx hb dX9_layGains_111 ?_
            refine kald (v := r (33 + cl (nI (n / 6)))) hC.1 hK (kP_app.mp (kP_app.mp hP).2).1 0 rfl (ix_in (K := 33) (vp_in_nI (show n / 6 < 6 by omega) (by omega)) (by omega) (by omega)) (congrArg r (show cl (33 + (nI (n / 6))) = 33 + cl (nI (n / 6)) from ix_cl (K := 33) (vp_in_nI (show n / 6 < 6 by omega) (by omega)) (by omega))) dX9_layGains_112 ?_
            refine lv_iadd hx hb dX9_layGains_113 ?_
            refine top_i (x := ((3 * (((btF true (nI (n / 6)) (nI (n % 6)) 60 0 r).2 (39 + cl (nI (n / 6)))) - (r (39 + cl (nI (n / 6)))))) - ((btF true (nI (n / 6)) (nI (n % 6)) 60 0 r).2 (33 + cl (nI (n / 6))))) + (r (33 + cl (nI (n / 6))))) (y := gnA (btF true (nI (n / 6)) (nI (n % 6)) 60 0 r).2 r (nI (n / 6))) rfl ?_
            have hP : kP g (aW g (o 8) 72 (gnF r mi th gn n) ++ (aW g (o 3) 45 (btF true (nI (n / 6)) (nI (n % 6)) 60 0 r).2 ++ (aW g (o 2) 45 r ++ (mO g o ab be lm ra ta ti fa um ua hh ++ [])))) _ := kP_perm (((pmA _ (pmA _ (pm_swap _ _ _))).trans (pmA _ (pm_swap _ _ _))).trans (pm_swap _ _ _)) hP
            have hD : va_D _ (aW g (o 8) 72 (gnF r mi th gn n) ++ (aW g (o 3) 45 (btF true (nI (n / 6)) (nI (n % 6)) 60 0 r).2 ++ (aW g (o 2) 45 r ++ (mO g o ab be lm ra ta ti fa um ua hh ++ [])))) := vD_perm (((pmA _ (pmA _ (pm_swap _ _ _))).trans (pmA _ (pm_swap _ _ _))).trans (pm_swap _ _ _)) hD
            refine kast (B' := aW g (o 8) 72 (upd (gnF r mi th gn n) (2 * n) (gnA (btF true (nI (n / 6)) (nI (n % 6)) 60 0 r).2 r (nI (n / 6))))) hC.1 hK hP hD hS 0 rfl (vp_in_nI (by omega) (by omega)) (fun _ h => by rw [cl_nI (by omega)] at h; exact h) aW_adr dX9_layGains_114 (fun H locs hP hD hS => ?_)
            refine lv_aload_n hx hb dX9_layGains_115 rfl (lv_at hl 2 rfl) ?_
            refine kget hC.1 hK (kP_app.mp (kP_app.mp (kP_app.mp (kP_app.mp hP).2).2).2).1 0 rfl rfl in_9 16 (by decide) (gw_in m_976 rfl) rfl dX9_layGains_116 ?_
            refine lv_iconst (v := 2) hx hb dX9_layGains_119 rfl ?_
            refine lv_iload_n hx hb dX9_layGains_120 rfl (lv_at hl 5 rfl) ?_
            refine lv_imul hx hb dX9_layGains_121 ?_
            refine top_i (x := 2 * (nI n)) (y := nI (2 * n)) (show nI 2 * nI n = _ from pk_mul 2 n) ?_
            refine lv_iconst (v := 1) hx hb dX9_layGains_122 rfl ?_
            refine lv_iadd hx hb dX9_layGains_123 ?_
            refine top_i (x := (nI (2 * n)) + 1) (y := nI (2 * n + 1)) (nI_1 (2 * n)) ?_
            refine lv_iconst (v := 3) hx hb dX9_layGains_124 rfl ?_
            refine lv_aload_n hx hb dX9_layGains_125 rfl (lv_at hl 2 rfl) ?_
            refine kget hC.1 hK (kP_app.mp (kP_app.mp (kP_app.mp (kP_app.mp hP).2).2).2).1 0 rfl rfl in_9 4 (by decide) (gw_in m_964 rfl) rfl dX9_layGains_126 ?_
            refine lv_bipush (v := 39) hx hb dX9_layGains_129 rfl ?_
            refine lv_iload hx hb dX9_layGains_131 (lv_at hl 0 rfl) ?_
            refine lv_iadd hx hb dX9_layGains_133 ?_
            refine kald (v := (btF true (nI (n / 6)) (nI (n % 6)) 60 0 r).2 (39 + cl (nI (n % 6)))) hC.1 hK (kP_app.mp (kP_app.mp hP).2).1 0 rfl (ix_in (K := 39) (vp_in_nI (show n % 6 < 6 by omega) (by omega)) (by omega) (by omega)) (congrArg (btF true (nI (n / 6)) (nI (n % 6)) 60 0 r).2 (show cl (39 + (nI (n % 6))) = 39 + cl (nI (n % 6)) from ix_cl (K := 39) (vp_in_nI (show n % 6 < 6 by omega) (by omega)) (by omega))) dX9_layGains_134 ?_
            refine lv_aload_n hx hb dX9_layGains_135 rfl (lv_at hl 2 rfl) ?_
            refine kget hC.1 hK (kP_app.mp (kP_app.mp (kP_app.mp (kP_app.mp hP).2).2).2).1 0 rfl rfl in_9 3 (by decide) (gw_in m_963 rfl) rfl dX9_layGains_136 ?_
            refine lv_bipush (v := 39) hx hb dX9_layGains_139 rfl ?_
            refine lv_iload hx hb dX9_layGains_141 (lv_at hl 0 rfl) ?_
            refine lv_iadd hx hb dX9_layGains_143 ?_
            refine kald (v := r (39 + cl (nI (n % 6)))) hC.1 hK (kP_app.mp (kP_app.mp (kP_app.mp hP).2).2).1 0 rfl (ix_in (K := 39) (vp_in_nI (show n % 6 < 6 by omega) (by omega)) (by omega) (by omega)) (congrArg r (show cl (39 + (nI (n % 6))) = 39 + cl (nI (n % 6)) from ix_cl (K := 39) (vp_in_nI (show n % 6 < 6 by omega) (by omega)) (by omega))) dX9_layGains_144 ?_
            refine lv_isub hx hb dX9_layGains_145 ?_
            refine lv_imul hx hb dX9_layGains_146 ?_
            refine lv_aload_n hx hb dX9_layGains_147 rfl (lv_at hl 2 rfl) ?_
            refine kget hC.1 hK (kP_app.mp (kP_app.mp (kP_app.mp (kP_app.mp hP).2).2).2).1 0 rfl rfl in_9 4 (by decide) (gw_in m_964 rfl) rfl dX9_layGains_148 ?_
            refine lv_bipush (v := 33) hx hb dX9_layGains_151 rfl ?_
            refine lv_iload hx hb dX9_layGains_153 (lv_at hl 0 rfl) ?_
            refine lv_iadd hx hb dX9_layGains_155 ?_
            refine kald (v := (btF true (nI (n / 6)) (nI (n % 6)) 60 0 r).2 (33 + cl (nI (n % 6)))) hC.1 hK (kP_app.mp (kP_app.mp hP).2).1 0 rfl (ix_in (K := 33) (vp_in_nI (show n % 6 < 6 by omega) (by omega)) (by omega) (by omega)) (congrArg (btF true (nI (n / 6)) (nI (n % 6)) 60 0 r).2 (show cl (33 + (nI (n % 6))) = 33 + cl (nI (n % 6)) from ix_cl (K := 33) (vp_in_nI (show n % 6 < 6 by omega) (by omega)) (by omega))) dX9_layGains_156 ?_
            refine lv_isub hx hb dX9_layGains_157 ?_
            refine lv_aload_n hx hb dX9_layGains_158 rfl (lv_at hl 2 rfl) ?_
            refine kget hC.1 hK (kP_app.mp (kP_app.mp (kP_app.mp (kP_app.mp hP).2).2).2).1 0 rfl rfl in_9 3 (by decide) (gw_in m_963 rfl) rfl dX9_layGains_159 ?_
            refine lv_bipush (v := 33) hx hb dX9_layGains_162 rfl ?_
            refine lv_iload hx hb dX9_layGains_164 (lv_at hl 0 rfl) ?_
            refine lv_iadd hx hb dX9_layGains_166 ?_
            refine kald (v := r (33 + cl (nI (n % 6)))) hC.1 hK (kP_app.mp (kP_app.mp (kP_app.mp hP).2).2).1 0 rfl (ix_in (K := 33) (vp_in_nI (show n % 6 < 6 by omega) (by omega)) (by omega) (by omega)) (congrArg r (show cl (33 + (nI (n % 6))) = 33 + cl (nI (n % 6)) from ix_cl (K := 33) (vp_in_nI (show n % 6 < 6 by omega) (by omega)) (by omega))) dX9_layGains_167 ?_
            refine lv_iadd hx hb dX9_layGains_168 ?_
            refine top_i (x := ((3 * (((btF true (nI (n / 6)) (nI (n % 6)) 60 0 r).2 (39 + cl (nI (n % 6)))) - (r (39 + cl (nI (n % 6)))))) - ((btF true (nI (n / 6)) (nI (n % 6)) 60 0 r).2 (33 + cl (nI (n % 6))))) + (r (33 + cl (nI (n % 6))))) (y := gnA (btF true (nI (n / 6)) (nI (n % 6)) 60 0 r).2 r (nI (n % 6))) rfl ?_
            refine kast (B' := aW g (o 8) 72 (upd (upd (gnF r mi th gn n) (2 * n) (gnA (btF true (nI (n / 6)) (nI (n % 6)) 60 0 r).2 r (nI (n / 6)))) (2 * n + 1) (gnA (btF true (nI (n / 6)) (nI (n % 6)) 60 0 r).2 r (nI (n % 6))))) hC.1 hK hP hD hS 0 rfl (vp_in_nI (by omega) (by omega)) (fun _ h => by rw [cl_nI (by omega)] at h; exact h) aW_adr dX9_layGains_169 (fun H locs hP hD hS => ?_)
            refine lv_iinc (v := nI (n + 1)) (lv' := [(3, .int (nI (n + 1))), (5, .int (nI (n % 6))), (4, .int (nI (n / 6))), (0, .ref (o 0)), (1, .int (mi)), (2, .int (th))]) hx hb dX9_layGains_170 hl (k := 5) rfl (inc_nI n) (by decide) rfl (fun ls hl => ?_)
            refine lv_goto (tgt := 2) hx hb dX9_layGains_173 (by decide) ?_
            have e9 : gnF r mi th gn (n + 1) = (upd (upd (gnF r mi th gn n) (2 * n) (gnA (btF true (nI (n / 6)) (nI (n % 6)) 60 0 r).2 r (nI (n / 6)))) (2 * n + 1) (gnA (btF true (nI (n / 6)) (nI (n % 6)) 60 0 r).2 r (nI (n % 6)))) := (if_pos c2).trans (if_pos c3)
            have hP : kP g (aW g (o 8) 72 (gnF r mi th gn (n + 1)) ++ (aW g (o 3) 45 (btF true (nI (n / 6)) (nI (n % 6)) 60 0 r).2 ++ (aW g (o 2) 45 r ++ (mO g o ab be lm ra ta ti fa um ua hh ++ [])))) _ := kP_eq (by rw [e9]) hP
            have hD : va_D _ (aW g (o 8) 72 (gnF r mi th gn (n + 1)) ++ (aW g (o 3) 45 (btF true (nI (n / 6)) (nI (n % 6)) 60 0 r).2 ++ (aW g (o 2) 45 r ++ (mO g o ab be lm ra ta ti fa um ua hh ++ [])))) := vD_eq (by rw [e9]) hD
            have hP : kP g (mO g o ab be lm ra ta ti fa um ua hh ++ (aW g (o 2) 45 r ++ (aW g (o 3) 45 (btF true (nI (n / 6)) (nI (n % 6)) 60 0 r).2 ++ (aW g (o 8) 72 (gnF r mi th gn (n + 1)) ++ [])))) _ := kP_perm ((((((pmA _ (pmA _ (pm_swap _ _ _))).trans (pmA _ (pm_swap _ _ _))).trans (pm_swap _ _ _)).trans (pmA _ (pmA _ (pm_swap _ _ _)))).trans (pmA _ (pm_swap _ _ _))).trans (pmA _ (pmA _ (pm_swap _ _ _)))) hP
            have hD : va_D _ (mO g o ab be lm ra ta ti fa um ua hh ++ (aW g (o 2) 45 r ++ (aW g (o 3) 45 (btF true (nI (n / 6)) (nI (n % 6)) 60 0 r).2 ++ (aW g (o 8) 72 (gnF r mi th gn (n + 1)) ++ [])))) := vD_perm ((((((pmA _ (pmA _ (pm_swap _ _ _))).trans (pmA _ (pm_swap _ _ _))).trans (pm_swap _ _ _)).trans (pmA _ (pmA _ (pm_swap _ _ _)))).trans (pmA _ (pm_swap _ _ _))).trans (pmA _ (pmA _ (pm_swap _ _ _)))) hD
            exact ih2 (n + 1) (btF true (nI (n / 6)) (nI (n % 6)) 60 0 r).2 (by omega) (by omega) _ _ hP hD hS _ (lv_sub hl [3, 4, 5, 0] rfl)
  have hP : kP g (mO g o ab be lm ra ta ti fa um ua hh ++ (aW g (o 2) 45 r ++ (aW g (o 3) 45 tr ++ (aW g (o 8) 72 (gnF r mi th gn 0) ++ [])))) _ := kP_eq (by rfl) hP
  have hD : va_D _ (mO g o ab be lm ra ta ti fa um ua hh ++ (aW g (o 2) 45 r ++ (aW g (o 3) 45 tr ++ (aW g (o 8) 72 (gnF r mi th gn 0) ++ [])))) := vD_eq (by rfl) hD
  exact cut2 _ 0 tr (Nat.lt_succ_self _) (by omega) _ _ hP hD hS _ (lv_sub hl [1, 2, 3, 0] rfl)
set_option maxHeartbeats 4000000 in
set_option maxRecDepth 100000 in
theorem kX9_rests (l : Launch) (g : gG) (o : Nat → Nat) (ab be : Int64) (lm ra ta : Nat) (ti fa : Int32) (um ua : Nat) (hh : Int64) (gn : Nat → Int32) (mi th : Int32) (C : Nat) (hC6 : C < 36) : Met l yX9_rests (.code yX9_rests cX9_rests 10 (some .boolean) :: gw) (rmN 1) (va_Pc [.ref (o 0), .int (mi), .int (th), .int (nI C)] (roPre g (mO g o ab be lm ra ta ti fa um ua hh ++ (aW g (o 8) 72 gn ++ [])))) (vp_Si (fun v => v = (b2i (rsL mi th gn C 6)))) 0 0 (fun _ => False) := by
  refine met_start (by decide) (Nat.le_of_ble_eq_true rfl) ?_
  intro pp ee ss mm bl mt cd hC hpre ls hl
  obtain ⟨⟨hx, hb, hml, hown, hts⟩, hr, hlk, hnm⟩ := id hC
  have hl : lv_has ls 10 [(0, .ref (o 0)), (1, .int (mi)), (2, .int (th)), (3, .int (nI C))] := hl
  obtain ⟨hP, hK⟩ := hpre
  refine lv_iload_n hx hb dX9_rests_0 rfl (lv_at hl 3 rfl) ?_
  refine lv_bipush (v := 6) hx hb dX9_rests_1 rfl ?_
  refine lv_idiv hx hb dX9_rests_3 (by decide) ?_
  refine top_i (x := (nI C) / 6) (y := nI (C / 6)) (pk_div (d := 6) (by omega) (by omega) (by omega)) ?_
  refine lv_istore (lv' := [(4, .int (nI (C / 6))), (0, .ref (o 0)), (1, .int (mi)), (2, .int (th)), (3, .int (nI C))]) hx hb dX9_rests_4 hl (by decide) rfl (fun ls hl => ?_)
  refine lv_iload_n hx hb dX9_rests_6 rfl (lv_at hl 4 rfl) ?_
  refine lv_bipush (v := 6) hx hb dX9_rests_7 rfl ?_
  refine lv_irem hx hb dX9_rests_9 (by decide) ?_
  refine top_i (x := (nI C) - (nI C) / 6 * 6) (y := nI (C % 6)) (pk_rem (d := 6) (by omega) (by omega) (by omega)) ?_
  refine lv_istore (lv' := [(5, .int (nI (C % 6))), (4, .int (nI (C / 6))), (0, .ref (o 0)), (1, .int (mi)), (2, .int (th)), (3, .int (nI C))]) hx hb dX9_rests_10 hl (by decide) rfl (fun ls hl => ?_)
  refine lv_iload_n hx hb dX9_rests_12 rfl (lv_at hl 3 rfl) ?_
  refine lv_iload hx hb dX9_rests_13 (lv_at hl 1 rfl) ?_
  refine ro_i (run_S (As := [.int (mi), .int (nI (C / 6))]) (rest := []) hC.1 ckX9_has (kX9_has l mi (nI (C / 6))) (gw_in m_1225 rfl) (fb_nil _) (fun _ _ _ => trivial) ⟨rfl, rfl, Nat.le_of_ble_eq_true rfl, Nat.le_of_ble_eq_true rfl⟩ rfl hl.1 rfl (Nat.le_of_ble_eq_true rfl) dX9_rests_15 ⟨Nat.le_of_ble_eq_true rfl, Nat.le_of_ble_eq_true rfl⟩) ?_
  refine lv_if_eq (tgt := 34) hx hb dX9_rests_18 (by decide) (fun c1 => ?_) (fun c1 => ?_)
  · skip
    have c1 := b2i_0 c1
    refine lv_iconst (v := 0) hx hb dX9_rests_34 rfl ?_
    refine lv_istore (lv' := [(6, .int (0)), (5, .int (nI (C % 6))), (4, .int (nI (C / 6))), (0, .ref (o 0)), (1, .int (mi)), (2, .int (th)), (3, .int (nI C))]) hx hb dX9_rests_35 hl (by decide) rfl (fun ls hl => ?_)
    refine lv_iconst (v := 0) hx hb dX9_rests_37 rfl ?_
    refine lv_istore (lv' := [(7, .int (0)), (6, .int (0)), (5, .int (nI (C % 6))), (4, .int (nI (C / 6))), (0, .ref (o 0)), (1, .int (mi)), (2, .int (th)), (3, .int (nI C))]) hx hb dX9_rests_38 hl (by decide) rfl (fun ls hl => ?_)
    have cut40 : ∀ kk : Nat, ∀ (n : Nat), 7 - n < kk → (hn : n ≤ 6) → ∀ (ls : Array Slot), lv_has ls 10 [(0, .ref (o 0)), (1, .int (mi)), (2, .int (th)), (3, .int (nI C)), (4, .int (nI (C / 6))), (5, .int (nI (C % 6))), (6, .int (b2i (rsL mi th gn C n))), (7, .int (nI n))] → W pp l ee (rmN 1) ss mm ([.ref (o 0), .int (mi), .int (th), .int (nI C)] : List Value).toArray bl mt cd ss.heap [] 0 0 (MQ bl (vp_Si (fun v => v = (b2i (rsL mi th gn C 6)))) ([.ref (o 0), .int (mi), .int (th), .int (nI C)] : List Value).toArray ss 0 0 (fun _ => False)) (F0 mm 40 ls []) := by
      intro kk
      induction kk with
      | zero => intro n hmu; exact absurd hmu (Nat.not_lt_zero _)
      | succ kk ih40 =>
        intro n hmu hn ls hl
        refine lv_iload hx hb dX9_rests_40 (lv_at hl 7 rfl) ?_
        refine lv_bipush (v := 6) hx hb dX9_rests_42 rfl ?_
        refine lv_icmp_ge (tgt := 163) hx hb dX9_rests_44 (by decide) (fun c2 => ?_) (fun c2 => ?_)
        · skip
          have c2' := Int32.not_lt.mpr c2
          have hn9 : n = 6 := by have := lp_ge (by omega) c2; rw [show (6 : Int32).toInt = 6 from rfl] at this; omega
          have hfin : rsL mi th gn C 6 = rsL mi th gn C n := by rw [hn9]
          refine lv_iload hx hb dX9_rests_163 (lv_at hl 6 rfl) ?_
          exact ret_roz hx hb hr hlk rfl (by rw [hfin]) dX9_rests_165
        · skip
          have c2' := Int32.not_le.mp c2
          have hn9 : n < 6 := by have := lp_lt (by omega) c2; rw [show (6 : Int32).toInt = 6 from rfl] at this; omega
          refine lv_iload hx hb dX9_rests_47 (lv_at hl 6 rfl) ?_
          refine lv_if_eq (tgt := 163) hx hb dX9_rests_49 (by decide) (fun c3 => ?_) (fun c3 => ?_)
          · skip
            have c3 := b2i_0 c3
            have hfin : rsL mi th gn C 6 = rsL mi th gn C n := rsL_stop c3 hn
            refine lv_iload hx hb dX9_rests_163 (lv_at hl 6 rfl) ?_
            exact ret_roz hx hb hr hlk rfl (by rw [hfin]) dX9_rests_165
          · skip
            have c3 := b2i_1 c3
            refine lv_iload_n hx hb dX9_rests_52 rfl (lv_at hl 1 rfl) ?_
            refine lv_iload hx hb dX9_rests_53 (lv_at hl 7 rfl) ?_
            refine ro_i (run_S (As := [.int (mi), .int (nI n)]) (rest := []) hC.1 ckX9_has (kX9_has l mi (nI n)) (gw_in m_1225 rfl) (fb_nil _) (fun _ _ _ => trivial) ⟨rfl, rfl, Nat.le_of_ble_eq_true rfl, Nat.le_of_ble_eq_true rfl⟩ rfl hl.1 rfl (Nat.le_of_ble_eq_true rfl) dX9_rests_55 ⟨Nat.le_of_ble_eq_true rfl, Nat.le_of_ble_eq_true rfl⟩) ?_
            refine lv_if_eq (tgt := 91) hx hb dX9_rests_58 (by decide) (fun c4 => ?_) (fun c4 => ?_)
            · skip
              have c4 := b2i_0 c4
              refine lv_iconst (v := 0) hx hb dX9_rests_91 rfl ?_
              refine lv_istore (lv' := [(8, .int (0)), (0, .ref (o 0)), (1, .int (mi)), (2, .int (th)), (3, .int (nI C)), (4, .int (nI (C / 6))), (5, .int (nI (C % 6))), (6, .int (b2i (rsL mi th gn C n))), (7, .int (nI n))]) hx hb dX9_rests_92 hl (by decide) rfl (fun ls hl => ?_)
              refine lv_iload_n hx hb dX9_rests_94 rfl (lv_at hl 3 rfl) ?_
              refine lv_iload hx hb dX9_rests_95 (lv_at hl 8 rfl) ?_
              refine ro_i (run_S (As := [.int (th), .int (nI n)]) (rest := []) hC.1 ckX9_has (kX9_has l th (nI n)) (gw_in m_1225 rfl) (fb_nil _) (fun _ _ _ => trivial) ⟨rfl, rfl, Nat.le_of_ble_eq_true rfl, Nat.le_of_ble_eq_true rfl⟩ rfl hl.1 rfl (Nat.le_of_ble_eq_true rfl) dX9_rests_97 ⟨Nat.le_of_ble_eq_true rfl, Nat.le_of_ble_eq_true rfl⟩) ?_
              refine lv_if_eq (tgt := 137) hx hb dX9_rests_100 (by decide) (fun c5 => ?_) (fun c5 => ?_)
              · skip
                have c5 := b2i_0 c5
                refine lv_iconst (v := 0) hx hb dX9_rests_137 rfl ?_
                refine lv_istore (lv' := [(9, .int (0)), (8, .int (0)), (0, .ref (o 0)), (1, .int (mi)), (2, .int (th)), (3, .int (nI C)), (4, .int (nI (C / 6))), (5, .int (nI (C % 6))), (6, .int (b2i (rsL mi th gn C n))), (7, .int (nI n))]) hx hb dX9_rests_138 hl (by decide) rfl (fun ls hl => ?_)
                refine lv_iload hx hb dX9_rests_140 (lv_at hl 1 rfl) ?_
                refine lv_if_ne (tgt := 154) hx hb dX9_rests_142 (by decide) (fun c6 => ?_) (fun c6 => ?_)
                · skip
                  exact absurd c6 (by decide)
                · skip
                  refine lv_iload hx hb dX9_rests_145 (lv_at hl 0 rfl) ?_
                  refine lv_if_ne (tgt := 154) hx hb dX9_rests_147 (by decide) (fun c7 => ?_) (fun c7 => ?_)
                  · skip
                    exact absurd c7 (by decide)
                  · skip
                    refine lv_iconst (v := 1) hx hb dX9_rests_150 rfl ?_
                    refine lv_goto (tgt := 155) hx hb dX9_rests_151 (by decide) ?_
                    refine lv_istore (lv' := [(6, .int (1)), (9, .int (0)), (8, .int (0)), (0, .ref (o 0)), (1, .int (mi)), (2, .int (th)), (3, .int (nI C)), (4, .int (nI (C / 6))), (5, .int (nI (C % 6))), (7, .int (nI n))]) hx hb dX9_rests_155 hl (by decide) rfl (fun ls hl => ?_)
                    refine lv_iinc (v := nI (n + 1)) (lv' := [(7, .int (nI (n + 1))), (6, .int (1)), (9, .int (0)), (8, .int (0)), (0, .ref (o 0)), (1, .int (mi)), (2, .int (th)), (3, .int (nI C)), (4, .int (nI (C / 6))), (5, .int (nI (C % 6)))]) hx hb dX9_rests_157 hl (k := 9) rfl (inc_nI n) (by decide) rfl (fun ls hl => ?_)
                    refine lv_goto (tgt := 40) hx hb dX9_rests_160 (by decide) ?_
                    have e6 : b2i (rsL mi th gn C (n + 1)) = 1 := by simp [rsL, rsQ, b2i, c2, c2', c3, c4, c5]
                    have hl : lv_has ls 10 [(7, .int (nI (n + 1))), (6, .int (b2i (rsL mi th gn C (n + 1)))), (9, .int (0)), (8, .int (0)), (0, .ref (o 0)), (1, .int (mi)), (2, .int (th)), (3, .int (nI C)), (4, .int (nI (C / 6))), (5, .int (nI (C % 6)))] := by rw [e6]; exact hl
                    exact ih40 (n + 1) (by omega) (by omega) _ (lv_sub hl [4, 5, 6, 7, 8, 9, 1, 0] rfl)
              · skip
                have c5 := b2i_1 c5
                refine lv_aload_n hx hb dX9_rests_103 rfl (lv_at hl 1 rfl) ?_
                refine kget hC.1 hK (kP_app.mp hP).1 0 rfl rfl in_9 16 (by decide) (gw_in m_976 rfl) rfl dX9_rests_104 ?_
                refine lv_iconst (v := 2) hx hb dX9_rests_107 rfl ?_
                refine lv_bipush (v := 6) hx hb dX9_rests_108 rfl ?_
                refine lv_iload hx hb dX9_rests_110 (lv_at hl 5 rfl) ?_
                refine lv_imul hx hb dX9_rests_112 ?_
                refine top_i (x := 6 * (nI (C / 6))) (y := nI (6 * (C / 6))) (show nI 6 * _ = _ from pk_mul 6 _) ?_
                refine lv_iload hx hb dX9_rests_113 (lv_at hl 8 rfl) ?_
                refine lv_iadd hx hb dX9_rests_115 ?_
                refine top_i (x := (nI (6 * (C / 6))) + (nI n)) (y := nI (6 * (C / 6) + n)) (nI_add _ _) ?_
                refine lv_imul hx hb dX9_rests_116 ?_
                refine top_i (x := 2 * (nI (6 * (C / 6) + n))) (y := nI (2 * (6 * (C / 6) + n))) (show nI 2 * _ = _ from pk_mul 2 _) ?_
                refine lv_iconst (v := 1) hx hb dX9_rests_117 rfl ?_
                refine lv_iadd hx hb dX9_rests_118 ?_
                refine top_i (x := (nI (2 * (6 * (C / 6) + n))) + 1) (y := nI (2 * (6 * (C / 6) + n) + 1)) (nI_1 _) ?_
                refine kald (v := gn (2 * (6 * (C / 6) + n) + 1)) hC.1 hK (kP_app.mp (kP_app.mp hP).2).1 0 rfl (vp_in_nI (by omega) (by omega)) (by rw [cl_nI (by omega)]) dX9_rests_119 ?_
                refine lv_aload_n hx hb dX9_rests_120 rfl (lv_at hl 1 rfl) ?_
                refine kget hC.1 hK (kP_app.mp hP).1 0 rfl rfl in_9 16 (by decide) (gw_in m_976 rfl) rfl dX9_rests_121 ?_
                refine lv_iconst (v := 2) hx hb dX9_rests_124 rfl ?_
                refine lv_iload_n hx hb dX9_rests_125 rfl (lv_at hl 4 rfl) ?_
                refine lv_imul hx hb dX9_rests_126 ?_
                refine top_i (x := 2 * (nI C)) (y := nI (2 * C)) (show nI 2 * _ = _ from pk_mul 2 _) ?_
                refine lv_iconst (v := 1) hx hb dX9_rests_127 rfl ?_
                refine lv_iadd hx hb dX9_rests_128 ?_
                refine top_i (x := (nI (2 * C)) + 1) (y := nI (2 * C + 1)) (nI_1 _) ?_
                refine kald (v := gn (2 * C + 1)) hC.1 hK (kP_app.mp (kP_app.mp hP).2).1 0 rfl (vp_in_nI (by omega) (by omega)) (by rw [cl_nI (by omega)]) dX9_rests_129 ?_
                refine lv_icmp_le (tgt := 137) hx hb dX9_rests_130 (by decide) (fun c8 => ?_) (fun c8 => ?_)
                · skip
                  have c8' := Int32.not_lt.mpr c8
                  refine lv_iconst (v := 0) hx hb dX9_rests_137 rfl ?_
                  refine lv_istore (lv' := [(9, .int (0)), (8, .int (0)), (0, .ref (o 0)), (1, .int (mi)), (2, .int (th)), (3, .int (nI C)), (4, .int (nI (C / 6))), (5, .int (nI (C % 6))), (6, .int (b2i (rsL mi th gn C n))), (7, .int (nI n))]) hx hb dX9_rests_138 hl (by decide) rfl (fun ls hl => ?_)
                  refine lv_iload hx hb dX9_rests_140 (lv_at hl 1 rfl) ?_
                  refine lv_if_ne (tgt := 154) hx hb dX9_rests_142 (by decide) (fun c9 => ?_) (fun c9 => ?_)
                  · skip
                    exact absurd c9 (by decide)
                  · skip
                    refine lv_iload hx hb dX9_rests_145 (lv_at hl 0 rfl) ?_
                    refine lv_if_ne (tgt := 154) hx hb dX9_rests_147 (by decide) (fun c10 => ?_) (fun c10 => ?_)
                    · skip
                      exact absurd c10 (by decide)
                    · skip
                      refine lv_iconst (v := 1) hx hb dX9_rests_150 rfl ?_
                      refine lv_goto (tgt := 155) hx hb dX9_rests_151 (by decide) ?_
                      refine lv_istore (lv' := [(6, .int (1)), (9, .int (0)), (8, .int (0)), (0, .ref (o 0)), (1, .int (mi)), (2, .int (th)), (3, .int (nI C)), (4, .int (nI (C / 6))), (5, .int (nI (C % 6))), (7, .int (nI n))]) hx hb dX9_rests_155 hl (by decide) rfl (fun ls hl => ?_)
                      refine lv_iinc (v := nI (n + 1)) (lv' := [(7, .int (nI (n + 1))), (6, .int (1)), (9, .int (0)), (8, .int (0)), (0, .ref (o 0)), (1, .int (mi)), (2, .int (th)), (3, .int (nI C)), (4, .int (nI (C / 6))), (5, .int (nI (C % 6)))]) hx hb dX9_rests_157 hl (k := 9) rfl (inc_nI n) (by decide) rfl (fun ls hl => ?_)
                      refine lv_goto (tgt := 40) hx hb dX9_rests_160 (by decide) ?_
                      have e6 : b2i (rsL mi th gn C (n + 1)) = 1 := by simp [rsL, rsQ, b2i, c2, c2', c3, c4, c5, c8, c8']
                      have hl : lv_has ls 10 [(7, .int (nI (n + 1))), (6, .int (b2i (rsL mi th gn C (n + 1)))), (9, .int (0)), (8, .int (0)), (0, .ref (o 0)), (1, .int (mi)), (2, .int (th)), (3, .int (nI C)), (4, .int (nI (C / 6))), (5, .int (nI (C % 6)))] := by rw [e6]; exact hl
                      exact ih40 (n + 1) (by omega) (by omega) _ (lv_sub hl [4, 5, 6, 7, 8, 9, 1, 0] rfl)
                · skip
                  have c8' := Int32.not_le.mp c8
                  refine lv_iconst (v := 1) hx hb dX9_rests_133 rfl ?_
                  refine lv_goto (tgt := 138) hx hb dX9_rests_134 (by decide) ?_
                  refine lv_istore (lv' := [(9, .int (1)), (8, .int (0)), (0, .ref (o 0)), (1, .int (mi)), (2, .int (th)), (3, .int (nI C)), (4, .int (nI (C / 6))), (5, .int (nI (C % 6))), (6, .int (b2i (rsL mi th gn C n))), (7, .int (nI n))]) hx hb dX9_rests_138 hl (by decide) rfl (fun ls hl => ?_)
                  refine lv_iload hx hb dX9_rests_140 (lv_at hl 1 rfl) ?_
                  refine lv_if_ne (tgt := 154) hx hb dX9_rests_142 (by decide) (fun c11 => ?_) (fun c11 => ?_)
                  · skip
                    exact absurd c11 (by decide)
                  · skip
                    refine lv_iload hx hb dX9_rests_145 (lv_at hl 0 rfl) ?_
                    refine lv_if_ne (tgt := 154) hx hb dX9_rests_147 (by decide) (fun c12 => ?_) (fun c12 => ?_)
                    · skip
                      refine lv_iconst (v := 0) hx hb dX9_rests_154 rfl ?_
                      refine lv_istore (lv' := [(6, .int (0)), (9, .int (1)), (8, .int (0)), (0, .ref (o 0)), (1, .int (mi)), (2, .int (th)), (3, .int (nI C)), (4, .int (nI (C / 6))), (5, .int (nI (C % 6))), (7, .int (nI n))]) hx hb dX9_rests_155 hl (by decide) rfl (fun ls hl => ?_)
                      refine lv_iinc (v := nI (n + 1)) (lv' := [(7, .int (nI (n + 1))), (6, .int (0)), (9, .int (1)), (8, .int (0)), (0, .ref (o 0)), (1, .int (mi)), (2, .int (th)), (3, .int (nI C)), (4, .int (nI (C / 6))), (5, .int (nI (C % 6)))]) hx hb dX9_rests_157 hl (k := 9) rfl (inc_nI n) (by decide) rfl (fun ls hl => ?_)
                      refine lv_goto (tgt := 40) hx hb dX9_rests_160 (by decide) ?_
                      have e6 : b2i (rsL mi th gn C (n + 1)) = 0 := by simp [rsL, rsQ, b2i, c2, c2', c3, c4, c5, c8, c8']
                      have hl : lv_has ls 10 [(7, .int (nI (n + 1))), (6, .int (b2i (rsL mi th gn C (n + 1)))), (9, .int (1)), (8, .int (0)), (0, .ref (o 0)), (1, .int (mi)), (2, .int (th)), (3, .int (nI C)), (4, .int (nI (C / 6))), (5, .int (nI (C % 6)))] := by rw [e6]; exact hl
                      exact ih40 (n + 1) (by omega) (by omega) _ (lv_sub hl [4, 5, 6, 7, 8, 9, 1, 0] rfl)
                    · skip
                      exact absurd c12 (by decide)
            · skip
              have c4 := b2i_1 c4
              refine lv_aload_n hx hb dX9_rests_61 rfl (lv_at hl 0 rfl) ?_
              refine kget hC.1 hK (kP_app.mp hP).1 0 rfl rfl in_9 16 (by decide) (gw_in m_976 rfl) rfl dX9_rests_62 ?_
              refine lv_iconst (v := 2) hx hb dX9_rests_65 rfl ?_
              refine lv_bipush (v := 6) hx hb dX9_rests_66 rfl ?_
              refine lv_iload hx hb dX9_rests_68 (lv_at hl 7 rfl) ?_
              refine lv_imul hx hb dX9_rests_70 ?_
              refine top_i (x := 6 * (nI n)) (y := nI (6 * n)) (show nI 6 * nI n = _ from pk_mul 6 n) ?_
              refine lv_iload hx hb dX9_rests_71 (lv_at hl 5 rfl) ?_
              refine lv_iadd hx hb dX9_rests_73 ?_
              refine top_i (x := (nI (6 * n)) + (nI (C % 6))) (y := nI (6 * n + C % 6)) (nI_add _ _) ?_
              refine lv_imul hx hb dX9_rests_74 ?_
              refine top_i (x := 2 * (nI (6 * n + C % 6))) (y := nI (2 * (6 * n + C % 6))) (show nI 2 * _ = _ from pk_mul 2 _) ?_
              refine kald (v := gn (2 * (6 * n + C % 6))) hC.1 hK (kP_app.mp (kP_app.mp hP).2).1 0 rfl (vp_in_nI (by omega) (by omega)) (by rw [cl_nI (by omega)]) dX9_rests_75 ?_
              refine lv_aload_n hx hb dX9_rests_76 rfl (lv_at hl 0 rfl) ?_
              refine kget hC.1 hK (kP_app.mp hP).1 0 rfl rfl in_9 16 (by decide) (gw_in m_976 rfl) rfl dX9_rests_77 ?_
              refine lv_iconst (v := 2) hx hb dX9_rests_80 rfl ?_
              refine lv_iload_n hx hb dX9_rests_81 rfl (lv_at hl 3 rfl) ?_
              refine lv_imul hx hb dX9_rests_82 ?_
              refine top_i (x := 2 * (nI C)) (y := nI (2 * C)) (show nI 2 * _ = _ from pk_mul 2 _) ?_
              refine kald (v := gn (2 * C)) hC.1 hK (kP_app.mp (kP_app.mp hP).2).1 0 rfl (vp_in_nI (by omega) (by omega)) (by rw [cl_nI (by omega)]) dX9_rests_83 ?_
              refine lv_icmp_le (tgt := 91) hx hb dX9_rests_84 (by decide) (fun c13 => ?_) (fun c13 => ?_)
              · skip
                have c13' := Int32.not_lt.mpr c13
                refine lv_iconst (v := 0) hx hb dX9_rests_91 rfl ?_
                refine lv_istore (lv' := [(8, .int (0)), (0, .ref (o 0)), (1, .int (mi)), (2, .int (th)), (3, .int (nI C)), (4, .int (nI (C / 6))), (5, .int (nI (C % 6))), (6, .int (b2i (rsL mi th gn C n))), (7, .int (nI n))]) hx hb dX9_rests_92 hl (by decide) rfl (fun ls hl => ?_)
                refine lv_iload_n hx hb dX9_rests_94 rfl (lv_at hl 3 rfl) ?_
                refine lv_iload hx hb dX9_rests_95 (lv_at hl 8 rfl) ?_
                refine ro_i (run_S (As := [.int (th), .int (nI n)]) (rest := []) hC.1 ckX9_has (kX9_has l th (nI n)) (gw_in m_1225 rfl) (fb_nil _) (fun _ _ _ => trivial) ⟨rfl, rfl, Nat.le_of_ble_eq_true rfl, Nat.le_of_ble_eq_true rfl⟩ rfl hl.1 rfl (Nat.le_of_ble_eq_true rfl) dX9_rests_97 ⟨Nat.le_of_ble_eq_true rfl, Nat.le_of_ble_eq_true rfl⟩) ?_
                refine lv_if_eq (tgt := 137) hx hb dX9_rests_100 (by decide) (fun c14 => ?_) (fun c14 => ?_)
                · skip
                  have c14 := b2i_0 c14
                  refine lv_iconst (v := 0) hx hb dX9_rests_137 rfl ?_
                  refine lv_istore (lv' := [(9, .int (0)), (8, .int (0)), (0, .ref (o 0)), (1, .int (mi)), (2, .int (th)), (3, .int (nI C)), (4, .int (nI (C / 6))), (5, .int (nI (C % 6))), (6, .int (b2i (rsL mi th gn C n))), (7, .int (nI n))]) hx hb dX9_rests_138 hl (by decide) rfl (fun ls hl => ?_)
                  refine lv_iload hx hb dX9_rests_140 (lv_at hl 1 rfl) ?_
                  refine lv_if_ne (tgt := 154) hx hb dX9_rests_142 (by decide) (fun c15 => ?_) (fun c15 => ?_)
                  · skip
                    exact absurd c15 (by decide)
                  · skip
                    refine lv_iload hx hb dX9_rests_145 (lv_at hl 0 rfl) ?_
                    refine lv_if_ne (tgt := 154) hx hb dX9_rests_147 (by decide) (fun c16 => ?_) (fun c16 => ?_)
                    · skip
                      exact absurd c16 (by decide)
                    · skip
                      refine lv_iconst (v := 1) hx hb dX9_rests_150 rfl ?_
                      refine lv_goto (tgt := 155) hx hb dX9_rests_151 (by decide) ?_
                      refine lv_istore (lv' := [(6, .int (1)), (9, .int (0)), (8, .int (0)), (0, .ref (o 0)), (1, .int (mi)), (2, .int (th)), (3, .int (nI C)), (4, .int (nI (C / 6))), (5, .int (nI (C % 6))), (7, .int (nI n))]) hx hb dX9_rests_155 hl (by decide) rfl (fun ls hl => ?_)
                      refine lv_iinc (v := nI (n + 1)) (lv' := [(7, .int (nI (n + 1))), (6, .int (1)), (9, .int (0)), (8, .int (0)), (0, .ref (o 0)), (1, .int (mi)), (2, .int (th)), (3, .int (nI C)), (4, .int (nI (C / 6))), (5, .int (nI (C % 6)))]) hx hb dX9_rests_157 hl (k := 9) rfl (inc_nI n) (by decide) rfl (fun ls hl => ?_)
                      refine lv_goto (tgt := 40) hx hb dX9_rests_160 (by decide) ?_
                      have e6 : b2i (rsL mi th gn C (n + 1)) = 1 := by simp [rsL, rsQ, b2i, c2, c2', c3, c4, c13, c13', c14]
                      have hl : lv_has ls 10 [(7, .int (nI (n + 1))), (6, .int (b2i (rsL mi th gn C (n + 1)))), (9, .int (0)), (8, .int (0)), (0, .ref (o 0)), (1, .int (mi)), (2, .int (th)), (3, .int (nI C)), (4, .int (nI (C / 6))), (5, .int (nI (C % 6)))] := by rw [e6]; exact hl
                      exact ih40 (n + 1) (by omega) (by omega) _ (lv_sub hl [4, 5, 6, 7, 8, 9, 1, 0] rfl)
                · skip
                  have c14 := b2i_1 c14
                  refine lv_aload_n hx hb dX9_rests_103 rfl (lv_at hl 1 rfl) ?_
                  refine kget hC.1 hK (kP_app.mp hP).1 0 rfl rfl in_9 16 (by decide) (gw_in m_976 rfl) rfl dX9_rests_104 ?_
                  refine lv_iconst (v := 2) hx hb dX9_rests_107 rfl ?_
                  refine lv_bipush (v := 6) hx hb dX9_rests_108 rfl ?_
                  refine lv_iload hx hb dX9_rests_110 (lv_at hl 5 rfl) ?_
                  refine lv_imul hx hb dX9_rests_112 ?_
                  refine top_i (x := 6 * (nI (C / 6))) (y := nI (6 * (C / 6))) (show nI 6 * _ = _ from pk_mul 6 _) ?_
                  refine lv_iload hx hb dX9_rests_113 (lv_at hl 8 rfl) ?_
                  refine lv_iadd hx hb dX9_rests_115 ?_
                  refine top_i (x := (nI (6 * (C / 6))) + (nI n)) (y := nI (6 * (C / 6) + n)) (nI_add _ _) ?_
                  refine lv_imul hx hb dX9_rests_116 ?_
                  refine top_i (x := 2 * (nI (6 * (C / 6) + n))) (y := nI (2 * (6 * (C / 6) + n))) (show nI 2 * _ = _ from pk_mul 2 _) ?_
                  refine lv_iconst (v := 1) hx hb dX9_rests_117 rfl ?_
                  refine lv_iadd hx hb dX9_rests_118 ?_
                  refine top_i (x := (nI (2 * (6 * (C / 6) + n))) + 1) (y := nI (2 * (6 * (C / 6) + n) + 1)) (nI_1 _) ?_
                  refine kald (v := gn (2 * (6 * (C / 6) + n) + 1)) hC.1 hK (kP_app.mp (kP_app.mp hP).2).1 0 rfl (vp_in_nI (by omega) (by omega)) (by rw [cl_nI (by omega)]) dX9_rests_119 ?_
                  refine lv_aload_n hx hb dX9_rests_120 rfl (lv_at hl 1 rfl) ?_
                  refine kget hC.1 hK (kP_app.mp hP).1 0 rfl rfl in_9 16 (by decide) (gw_in m_976 rfl) rfl dX9_rests_121 ?_
                  refine lv_iconst (v := 2) hx hb dX9_rests_124 rfl ?_
                  refine lv_iload_n hx hb dX9_rests_125 rfl (lv_at hl 4 rfl) ?_
                  refine lv_imul hx hb dX9_rests_126 ?_
                  refine top_i (x := 2 * (nI C)) (y := nI (2 * C)) (show nI 2 * _ = _ from pk_mul 2 _) ?_
                  refine lv_iconst (v := 1) hx hb dX9_rests_127 rfl ?_
                  refine lv_iadd hx hb dX9_rests_128 ?_
                  refine top_i (x := (nI (2 * C)) + 1) (y := nI (2 * C + 1)) (nI_1 _) ?_
                  refine kald (v := gn (2 * C + 1)) hC.1 hK (kP_app.mp (kP_app.mp hP).2).1 0 rfl (vp_in_nI (by omega) (by omega)) (by rw [cl_nI (by omega)]) dX9_rests_129 ?_
                  refine lv_icmp_le (tgt := 137) hx hb dX9_rests_130 (by decide) (fun c17 => ?_) (fun c17 => ?_)
                  · skip
                    have c17' := Int32.not_lt.mpr c17
                    refine lv_iconst (v := 0) hx hb dX9_rests_137 rfl ?_
                    refine lv_istore (lv' := [(9, .int (0)), (8, .int (0)), (0, .ref (o 0)), (1, .int (mi)), (2, .int (th)), (3, .int (nI C)), (4, .int (nI (C / 6))), (5, .int (nI (C % 6))), (6, .int (b2i (rsL mi th gn C n))), (7, .int (nI n))]) hx hb dX9_rests_138 hl (by decide) rfl (fun ls hl => ?_)
                    refine lv_iload hx hb dX9_rests_140 (lv_at hl 1 rfl) ?_
                    refine lv_if_ne (tgt := 154) hx hb dX9_rests_142 (by decide) (fun c18 => ?_) (fun c18 => ?_)
                    · skip
                      exact absurd c18 (by decide)
                    · skip
                      refine lv_iload hx hb dX9_rests_145 (lv_at hl 0 rfl) ?_
                      refine lv_if_ne (tgt := 154) hx hb dX9_rests_147 (by decide) (fun c19 => ?_) (fun c19 => ?_)
                      · skip
                        exact absurd c19 (by decide)
                      · skip
                        refine lv_iconst (v := 1) hx hb dX9_rests_150 rfl ?_
                        refine lv_goto (tgt := 155) hx hb dX9_rests_151 (by decide) ?_
                        refine lv_istore (lv' := [(6, .int (1)), (9, .int (0)), (8, .int (0)), (0, .ref (o 0)), (1, .int (mi)), (2, .int (th)), (3, .int (nI C)), (4, .int (nI (C / 6))), (5, .int (nI (C % 6))), (7, .int (nI n))]) hx hb dX9_rests_155 hl (by decide) rfl (fun ls hl => ?_)
                        refine lv_iinc (v := nI (n + 1)) (lv' := [(7, .int (nI (n + 1))), (6, .int (1)), (9, .int (0)), (8, .int (0)), (0, .ref (o 0)), (1, .int (mi)), (2, .int (th)), (3, .int (nI C)), (4, .int (nI (C / 6))), (5, .int (nI (C % 6)))]) hx hb dX9_rests_157 hl (k := 9) rfl (inc_nI n) (by decide) rfl (fun ls hl => ?_)
                        refine lv_goto (tgt := 40) hx hb dX9_rests_160 (by decide) ?_
                        have e6 : b2i (rsL mi th gn C (n + 1)) = 1 := by simp [rsL, rsQ, b2i, c2, c2', c3, c4, c13, c13', c14, c17, c17']
                        have hl : lv_has ls 10 [(7, .int (nI (n + 1))), (6, .int (b2i (rsL mi th gn C (n + 1)))), (9, .int (0)), (8, .int (0)), (0, .ref (o 0)), (1, .int (mi)), (2, .int (th)), (3, .int (nI C)), (4, .int (nI (C / 6))), (5, .int (nI (C % 6)))] := by rw [e6]; exact hl
                        exact ih40 (n + 1) (by omega) (by omega) _ (lv_sub hl [4, 5, 6, 7, 8, 9, 1, 0] rfl)
                  · skip
                    have c17' := Int32.not_le.mp c17
                    refine lv_iconst (v := 1) hx hb dX9_rests_133 rfl ?_
                    refine lv_goto (tgt := 138) hx hb dX9_rests_134 (by decide) ?_
                    refine lv_istore (lv' := [(9, .int (1)), (8, .int (0)), (0, .ref (o 0)), (1, .int (mi)), (2, .int (th)), (3, .int (nI C)), (4, .int (nI (C / 6))), (5, .int (nI (C % 6))), (6, .int (b2i (rsL mi th gn C n))), (7, .int (nI n))]) hx hb dX9_rests_138 hl (by decide) rfl (fun ls hl => ?_)
                    refine lv_iload hx hb dX9_rests_140 (lv_at hl 1 rfl) ?_
                    refine lv_if_ne (tgt := 154) hx hb dX9_rests_142 (by decide) (fun c20 => ?_) (fun c20 => ?_)
                    · skip
                      exact absurd c20 (by decide)
                    · skip
                      refine lv_iload hx hb dX9_rests_145 (lv_at hl 0 rfl) ?_
                      refine lv_if_ne (tgt := 154) hx hb dX9_rests_147 (by decide) (fun c21 => ?_) (fun c21 => ?_)
                      · skip
                        refine lv_iconst (v := 0) hx hb dX9_rests_154 rfl ?_
                        refine lv_istore (lv' := [(6, .int (0)), (9, .int (1)), (8, .int (0)), (0, .ref (o 0)), (1, .int (mi)), (2, .int (th)), (3, .int (nI C)), (4, .int (nI (C / 6))), (5, .int (nI (C % 6))), (7, .int (nI n))]) hx hb dX9_rests_155 hl (by decide) rfl (fun ls hl => ?_)
                        refine lv_iinc (v := nI (n + 1)) (lv' := [(7, .int (nI (n + 1))), (6, .int (0)), (9, .int (1)), (8, .int (0)), (0, .ref (o 0)), (1, .int (mi)), (2, .int (th)), (3, .int (nI C)), (4, .int (nI (C / 6))), (5, .int (nI (C % 6)))]) hx hb dX9_rests_157 hl (k := 9) rfl (inc_nI n) (by decide) rfl (fun ls hl => ?_)
                        refine lv_goto (tgt := 40) hx hb dX9_rests_160 (by decide) ?_
                        have e6 : b2i (rsL mi th gn C (n + 1)) = 0 := by simp [rsL, rsQ, b2i, c2, c2', c3, c4, c13, c13', c14, c17, c17']
                        have hl : lv_has ls 10 [(7, .int (nI (n + 1))), (6, .int (b2i (rsL mi th gn C (n + 1)))), (9, .int (1)), (8, .int (0)), (0, .ref (o 0)), (1, .int (mi)), (2, .int (th)), (3, .int (nI C)), (4, .int (nI (C / 6))), (5, .int (nI (C % 6)))] := by rw [e6]; exact hl
                        exact ih40 (n + 1) (by omega) (by omega) _ (lv_sub hl [4, 5, 6, 7, 8, 9, 1, 0] rfl)
                      · skip
                        exact absurd c21 (by decide)
              · skip
                have c13' := Int32.not_le.mp c13
                refine lv_iconst (v := 1) hx hb dX9_rests_87 rfl ?_
                refine lv_goto (tgt := 92) hx hb dX9_rests_88 (by decide) ?_
                refine lv_istore (lv' := [(8, .int (1)), (0, .ref (o 0)), (1, .int (mi)), (2, .int (th)), (3, .int (nI C)), (4, .int (nI (C / 6))), (5, .int (nI (C % 6))), (6, .int (b2i (rsL mi th gn C n))), (7, .int (nI n))]) hx hb dX9_rests_92 hl (by decide) rfl (fun ls hl => ?_)
                refine lv_iload_n hx hb dX9_rests_94 rfl (lv_at hl 3 rfl) ?_
                refine lv_iload hx hb dX9_rests_95 (lv_at hl 8 rfl) ?_
                refine ro_i (run_S (As := [.int (th), .int (nI n)]) (rest := []) hC.1 ckX9_has (kX9_has l th (nI n)) (gw_in m_1225 rfl) (fb_nil _) (fun _ _ _ => trivial) ⟨rfl, rfl, Nat.le_of_ble_eq_true rfl, Nat.le_of_ble_eq_true rfl⟩ rfl hl.1 rfl (Nat.le_of_ble_eq_true rfl) dX9_rests_97 ⟨Nat.le_of_ble_eq_true rfl, Nat.le_of_ble_eq_true rfl⟩) ?_
                refine lv_if_eq (tgt := 137) hx hb dX9_rests_100 (by decide) (fun c22 => ?_) (fun c22 => ?_)
                · skip
                  have c22 := b2i_0 c22
                  refine lv_iconst (v := 0) hx hb dX9_rests_137 rfl ?_
                  refine lv_istore (lv' := [(9, .int (0)), (8, .int (1)), (0, .ref (o 0)), (1, .int (mi)), (2, .int (th)), (3, .int (nI C)), (4, .int (nI (C / 6))), (5, .int (nI (C % 6))), (6, .int (b2i (rsL mi th gn C n))), (7, .int (nI n))]) hx hb dX9_rests_138 hl (by decide) rfl (fun ls hl => ?_)
                  refine lv_iload hx hb dX9_rests_140 (lv_at hl 1 rfl) ?_
                  refine lv_if_ne (tgt := 154) hx hb dX9_rests_142 (by decide) (fun c23 => ?_) (fun c23 => ?_)
                  · skip
                    refine lv_iconst (v := 0) hx hb dX9_rests_154 rfl ?_
                    refine lv_istore (lv' := [(6, .int (0)), (9, .int (0)), (8, .int (1)), (0, .ref (o 0)), (1, .int (mi)), (2, .int (th)), (3, .int (nI C)), (4, .int (nI (C / 6))), (5, .int (nI (C % 6))), (7, .int (nI n))]) hx hb dX9_rests_155 hl (by decide) rfl (fun ls hl => ?_)
                    refine lv_iinc (v := nI (n + 1)) (lv' := [(7, .int (nI (n + 1))), (6, .int (0)), (9, .int (0)), (8, .int (1)), (0, .ref (o 0)), (1, .int (mi)), (2, .int (th)), (3, .int (nI C)), (4, .int (nI (C / 6))), (5, .int (nI (C % 6)))]) hx hb dX9_rests_157 hl (k := 9) rfl (inc_nI n) (by decide) rfl (fun ls hl => ?_)
                    refine lv_goto (tgt := 40) hx hb dX9_rests_160 (by decide) ?_
                    have e6 : b2i (rsL mi th gn C (n + 1)) = 0 := by simp [rsL, rsQ, b2i, c2, c2', c3, c4, c13, c13', c22]
                    have hl : lv_has ls 10 [(7, .int (nI (n + 1))), (6, .int (b2i (rsL mi th gn C (n + 1)))), (9, .int (0)), (8, .int (1)), (0, .ref (o 0)), (1, .int (mi)), (2, .int (th)), (3, .int (nI C)), (4, .int (nI (C / 6))), (5, .int (nI (C % 6)))] := by rw [e6]; exact hl
                    exact ih40 (n + 1) (by omega) (by omega) _ (lv_sub hl [4, 5, 6, 7, 8, 9, 1, 0] rfl)
                  · skip
                    exact absurd c23 (by decide)
                · skip
                  have c22 := b2i_1 c22
                  refine lv_aload_n hx hb dX9_rests_103 rfl (lv_at hl 1 rfl) ?_
                  refine kget hC.1 hK (kP_app.mp hP).1 0 rfl rfl in_9 16 (by decide) (gw_in m_976 rfl) rfl dX9_rests_104 ?_
                  refine lv_iconst (v := 2) hx hb dX9_rests_107 rfl ?_
                  refine lv_bipush (v := 6) hx hb dX9_rests_108 rfl ?_
                  refine lv_iload hx hb dX9_rests_110 (lv_at hl 5 rfl) ?_
                  refine lv_imul hx hb dX9_rests_112 ?_
                  refine top_i (x := 6 * (nI (C / 6))) (y := nI (6 * (C / 6))) (show nI 6 * _ = _ from pk_mul 6 _) ?_
                  refine lv_iload hx hb dX9_rests_113 (lv_at hl 8 rfl) ?_
                  refine lv_iadd hx hb dX9_rests_115 ?_
                  refine top_i (x := (nI (6 * (C / 6))) + (nI n)) (y := nI (6 * (C / 6) + n)) (nI_add _ _) ?_
                  refine lv_imul hx hb dX9_rests_116 ?_
                  refine top_i (x := 2 * (nI (6 * (C / 6) + n))) (y := nI (2 * (6 * (C / 6) + n))) (show nI 2 * _ = _ from pk_mul 2 _) ?_
                  refine lv_iconst (v := 1) hx hb dX9_rests_117 rfl ?_
                  refine lv_iadd hx hb dX9_rests_118 ?_
                  refine top_i (x := (nI (2 * (6 * (C / 6) + n))) + 1) (y := nI (2 * (6 * (C / 6) + n) + 1)) (nI_1 _) ?_
                  refine kald (v := gn (2 * (6 * (C / 6) + n) + 1)) hC.1 hK (kP_app.mp (kP_app.mp hP).2).1 0 rfl (vp_in_nI (by omega) (by omega)) (by rw [cl_nI (by omega)]) dX9_rests_119 ?_
                  refine lv_aload_n hx hb dX9_rests_120 rfl (lv_at hl 1 rfl) ?_
                  refine kget hC.1 hK (kP_app.mp hP).1 0 rfl rfl in_9 16 (by decide) (gw_in m_976 rfl) rfl dX9_rests_121 ?_
                  refine lv_iconst (v := 2) hx hb dX9_rests_124 rfl ?_
                  refine lv_iload_n hx hb dX9_rests_125 rfl (lv_at hl 4 rfl) ?_
                  refine lv_imul hx hb dX9_rests_126 ?_
                  refine top_i (x := 2 * (nI C)) (y := nI (2 * C)) (show nI 2 * _ = _ from pk_mul 2 _) ?_
                  refine lv_iconst (v := 1) hx hb dX9_rests_127 rfl ?_
                  refine lv_iadd hx hb dX9_rests_128 ?_
                  refine top_i (x := (nI (2 * C)) + 1) (y := nI (2 * C + 1)) (nI_1 _) ?_
                  refine kald (v := gn (2 * C + 1)) hC.1 hK (kP_app.mp (kP_app.mp hP).2).1 0 rfl (vp_in_nI (by omega) (by omega)) (by rw [cl_nI (by omega)]) dX9_rests_129 ?_
                  refine lv_icmp_le (tgt := 137) hx hb dX9_rests_130 (by decide) (fun c24 => ?_) (fun c24 => ?_)
                  · skip
                    have c24' := Int32.not_lt.mpr c24
                    refine lv_iconst (v := 0) hx hb dX9_rests_137 rfl ?_
                    refine lv_istore (lv' := [(9, .int (0)), (8, .int (1)), (0, .ref (o 0)), (1, .int (mi)), (2, .int (th)), (3, .int (nI C)), (4, .int (nI (C / 6))), (5, .int (nI (C % 6))), (6, .int (b2i (rsL mi th gn C n))), (7, .int (nI n))]) hx hb dX9_rests_138 hl (by decide) rfl (fun ls hl => ?_)
                    refine lv_iload hx hb dX9_rests_140 (lv_at hl 1 rfl) ?_
                    refine lv_if_ne (tgt := 154) hx hb dX9_rests_142 (by decide) (fun c25 => ?_) (fun c25 => ?_)
                    · skip
                      refine lv_iconst (v := 0) hx hb dX9_rests_154 rfl ?_
                      refine lv_istore (lv' := [(6, .int (0)), (9, .int (0)), (8, .int (1)), (0, .ref (o 0)), (1, .int (mi)), (2, .int (th)), (3, .int (nI C)), (4, .int (nI (C / 6))), (5, .int (nI (C % 6))), (7, .int (nI n))]) hx hb dX9_rests_155 hl (by decide) rfl (fun ls hl => ?_)
                      refine lv_iinc (v := nI (n + 1)) (lv' := [(7, .int (nI (n + 1))), (6, .int (0)), (9, .int (0)), (8, .int (1)), (0, .ref (o 0)), (1, .int (mi)), (2, .int (th)), (3, .int (nI C)), (4, .int (nI (C / 6))), (5, .int (nI (C % 6)))]) hx hb dX9_rests_157 hl (k := 9) rfl (inc_nI n) (by decide) rfl (fun ls hl => ?_)
                      refine lv_goto (tgt := 40) hx hb dX9_rests_160 (by decide) ?_
                      have e6 : b2i (rsL mi th gn C (n + 1)) = 0 := by simp [rsL, rsQ, b2i, c2, c2', c3, c4, c13, c13', c22, c24, c24']
                      have hl : lv_has ls 10 [(7, .int (nI (n + 1))), (6, .int (b2i (rsL mi th gn C (n + 1)))), (9, .int (0)), (8, .int (1)), (0, .ref (o 0)), (1, .int (mi)), (2, .int (th)), (3, .int (nI C)), (4, .int (nI (C / 6))), (5, .int (nI (C % 6)))] := by rw [e6]; exact hl
                      exact ih40 (n + 1) (by omega) (by omega) _ (lv_sub hl [4, 5, 6, 7, 8, 9, 1, 0] rfl)
                    · skip
                      exact absurd c25 (by decide)
                  · skip
                    have c24' := Int32.not_le.mp c24
                    refine lv_iconst (v := 1) hx hb dX9_rests_133 rfl ?_
                    refine lv_goto (tgt := 138) hx hb dX9_rests_134 (by decide) ?_
                    refine lv_istore (lv' := [(9, .int (1)), (8, .int (1)), (0, .ref (o 0)), (1, .int (mi)), (2, .int (th)), (3, .int (nI C)), (4, .int (nI (C / 6))), (5, .int (nI (C % 6))), (6, .int (b2i (rsL mi th gn C n))), (7, .int (nI n))]) hx hb dX9_rests_138 hl (by decide) rfl (fun ls hl => ?_)
                    refine lv_iload hx hb dX9_rests_140 (lv_at hl 1 rfl) ?_
                    refine lv_if_ne (tgt := 154) hx hb dX9_rests_142 (by decide) (fun c26 => ?_) (fun c26 => ?_)
                    · skip
                      refine lv_iconst (v := 0) hx hb dX9_rests_154 rfl ?_
                      refine lv_istore (lv' := [(6, .int (0)), (9, .int (1)), (8, .int (1)), (0, .ref (o 0)), (1, .int (mi)), (2, .int (th)), (3, .int (nI C)), (4, .int (nI (C / 6))), (5, .int (nI (C % 6))), (7, .int (nI n))]) hx hb dX9_rests_155 hl (by decide) rfl (fun ls hl => ?_)
                      refine lv_iinc (v := nI (n + 1)) (lv' := [(7, .int (nI (n + 1))), (6, .int (0)), (9, .int (1)), (8, .int (1)), (0, .ref (o 0)), (1, .int (mi)), (2, .int (th)), (3, .int (nI C)), (4, .int (nI (C / 6))), (5, .int (nI (C % 6)))]) hx hb dX9_rests_157 hl (k := 9) rfl (inc_nI n) (by decide) rfl (fun ls hl => ?_)
                      refine lv_goto (tgt := 40) hx hb dX9_rests_160 (by decide) ?_
                      have e6 : b2i (rsL mi th gn C (n + 1)) = 0 := by simp [rsL, rsQ, b2i, c2, c2', c3, c4, c13, c13', c22, c24, c24']
                      have hl : lv_has ls 10 [(7, .int (nI (n + 1))), (6, .int (b2i (rsL mi th gn C (n + 1)))), (9, .int (1)), (8, .int (1)), (0, .ref (o 0)), (1, .int (mi)), (2, .int (th)), (3, .int (nI C)), (4, .int (nI (C / 6))), (5, .int (nI (C % 6)))] := by rw [e6]; exact hl
                      exact ih40 (n + 1) (by omega) (by omega) _ (lv_sub hl [4, 5, 6, 7, 8, 9, 1, 0] rfl)
                    · skip
                      exact absurd c26 (by decide)
    have e6 : b2i (rsL mi th gn C 0) = 0 := by simp [rsL, b2i, c1]
    have hl : lv_has ls 10 [(7, .int (0)), (6, .int (b2i (rsL mi th gn C 0))), (5, .int (nI (C % 6))), (4, .int (nI (C / 6))), (0, .ref (o 0)), (1, .int (mi)), (2, .int (th)), (3, .int (nI C))] := by rw [e6]; exact hl
    exact cut40 _ 0 (Nat.lt_succ_self _) (by omega) _ (lv_sub hl [4, 5, 6, 7, 3, 2, 1, 0] rfl)
  · skip
    have c1 := b2i_1 c1
    refine lv_iload_n hx hb dX9_rests_21 rfl (lv_at hl 4 rfl) ?_
    refine lv_iload hx hb dX9_rests_22 (lv_at hl 0 rfl) ?_
    refine ro_i (run_S (As := [.int (th), .int (nI (C % 6))]) (rest := []) hC.1 ckX9_has (kX9_has l th (nI (C % 6))) (gw_in m_1225 rfl) (fb_nil _) (fun _ _ _ => trivial) ⟨rfl, rfl, Nat.le_of_ble_eq_true rfl, Nat.le_of_ble_eq_true rfl⟩ rfl hl.1 rfl (Nat.le_of_ble_eq_true rfl) dX9_rests_24 ⟨Nat.le_of_ble_eq_true rfl, Nat.le_of_ble_eq_true rfl⟩) ?_
    refine lv_if_eq (tgt := 34) hx hb dX9_rests_27 (by decide) (fun c27 => ?_) (fun c27 => ?_)
    · skip
      have c27 := b2i_0 c27
      refine lv_iconst (v := 0) hx hb dX9_rests_34 rfl ?_
      refine lv_istore (lv' := [(6, .int (0)), (5, .int (nI (C % 6))), (4, .int (nI (C / 6))), (0, .ref (o 0)), (1, .int (mi)), (2, .int (th)), (3, .int (nI C))]) hx hb dX9_rests_35 hl (by decide) rfl (fun ls hl => ?_)
      refine lv_iconst (v := 0) hx hb dX9_rests_37 rfl ?_
      refine lv_istore (lv' := [(7, .int (0)), (6, .int (0)), (5, .int (nI (C % 6))), (4, .int (nI (C / 6))), (0, .ref (o 0)), (1, .int (mi)), (2, .int (th)), (3, .int (nI C))]) hx hb dX9_rests_38 hl (by decide) rfl (fun ls hl => ?_)
      have cut40 : ∀ kk : Nat, ∀ (n : Nat), 7 - n < kk → (hn : n ≤ 6) → ∀ (ls : Array Slot), lv_has ls 10 [(0, .ref (o 0)), (1, .int (mi)), (2, .int (th)), (3, .int (nI C)), (4, .int (nI (C / 6))), (5, .int (nI (C % 6))), (6, .int (b2i (rsL mi th gn C n))), (7, .int (nI n))] → W pp l ee (rmN 1) ss mm ([.ref (o 0), .int (mi), .int (th), .int (nI C)] : List Value).toArray bl mt cd ss.heap [] 0 0 (MQ bl (vp_Si (fun v => v = (b2i (rsL mi th gn C 6)))) ([.ref (o 0), .int (mi), .int (th), .int (nI C)] : List Value).toArray ss 0 0 (fun _ => False)) (F0 mm 40 ls []) := by
        intro kk
        induction kk with
        | zero => intro n hmu; exact absurd hmu (Nat.not_lt_zero _)
        | succ kk ih40 =>
          intro n hmu hn ls hl
          refine lv_iload hx hb dX9_rests_40 (lv_at hl 7 rfl) ?_
          refine lv_bipush (v := 6) hx hb dX9_rests_42 rfl ?_
          refine lv_icmp_ge (tgt := 163) hx hb dX9_rests_44 (by decide) (fun c28 => ?_) (fun c28 => ?_)
          · skip
            have c28' := Int32.not_lt.mpr c28
            have hn9 : n = 6 := by have := lp_ge (by omega) c28; rw [show (6 : Int32).toInt = 6 from rfl] at this; omega
            have hfin : rsL mi th gn C 6 = rsL mi th gn C n := by rw [hn9]
            refine lv_iload hx hb dX9_rests_163 (lv_at hl 6 rfl) ?_
            exact ret_roz hx hb hr hlk rfl (by rw [hfin]) dX9_rests_165
          · skip
            have c28' := Int32.not_le.mp c28
            have hn9 : n < 6 := by have := lp_lt (by omega) c28; rw [show (6 : Int32).toInt = 6 from rfl] at this; omega
            refine lv_iload hx hb dX9_rests_47 (lv_at hl 6 rfl) ?_
            refine lv_if_eq (tgt := 163) hx hb dX9_rests_49 (by decide) (fun c29 => ?_) (fun c29 => ?_)
            · skip
              have c29 := b2i_0 c29
              have hfin : rsL mi th gn C 6 = rsL mi th gn C n := rsL_stop c29 hn
              refine lv_iload hx hb dX9_rests_163 (lv_at hl 6 rfl) ?_
              exact ret_roz hx hb hr hlk rfl (by rw [hfin]) dX9_rests_165
            · skip
              have c29 := b2i_1 c29
              refine lv_iload_n hx hb dX9_rests_52 rfl (lv_at hl 1 rfl) ?_
              refine lv_iload hx hb dX9_rests_53 (lv_at hl 7 rfl) ?_
              refine ro_i (run_S (As := [.int (mi), .int (nI n)]) (rest := []) hC.1 ckX9_has (kX9_has l mi (nI n)) (gw_in m_1225 rfl) (fb_nil _) (fun _ _ _ => trivial) ⟨rfl, rfl, Nat.le_of_ble_eq_true rfl, Nat.le_of_ble_eq_true rfl⟩ rfl hl.1 rfl (Nat.le_of_ble_eq_true rfl) dX9_rests_55 ⟨Nat.le_of_ble_eq_true rfl, Nat.le_of_ble_eq_true rfl⟩) ?_
              refine lv_if_eq (tgt := 91) hx hb dX9_rests_58 (by decide) (fun c30 => ?_) (fun c30 => ?_)
              · skip
                have c30 := b2i_0 c30
                refine lv_iconst (v := 0) hx hb dX9_rests_91 rfl ?_
                refine lv_istore (lv' := [(8, .int (0)), (0, .ref (o 0)), (1, .int (mi)), (2, .int (th)), (3, .int (nI C)), (4, .int (nI (C / 6))), (5, .int (nI (C % 6))), (6, .int (b2i (rsL mi th gn C n))), (7, .int (nI n))]) hx hb dX9_rests_92 hl (by decide) rfl (fun ls hl => ?_)
                refine lv_iload_n hx hb dX9_rests_94 rfl (lv_at hl 3 rfl) ?_
                refine lv_iload hx hb dX9_rests_95 (lv_at hl 8 rfl) ?_
                refine ro_i (run_S (As := [.int (th), .int (nI n)]) (rest := []) hC.1 ckX9_has (kX9_has l th (nI n)) (gw_in m_1225 rfl) (fb_nil _) (fun _ _ _ => trivial) ⟨rfl, rfl, Nat.le_of_ble_eq_true rfl, Nat.le_of_ble_eq_true rfl⟩ rfl hl.1 rfl (Nat.le_of_ble_eq_true rfl) dX9_rests_97 ⟨Nat.le_of_ble_eq_true rfl, Nat.le_of_ble_eq_true rfl⟩) ?_
                refine lv_if_eq (tgt := 137) hx hb dX9_rests_100 (by decide) (fun c31 => ?_) (fun c31 => ?_)
                · skip
                  have c31 := b2i_0 c31
                  refine lv_iconst (v := 0) hx hb dX9_rests_137 rfl ?_
                  refine lv_istore (lv' := [(9, .int (0)), (8, .int (0)), (0, .ref (o 0)), (1, .int (mi)), (2, .int (th)), (3, .int (nI C)), (4, .int (nI (C / 6))), (5, .int (nI (C % 6))), (6, .int (b2i (rsL mi th gn C n))), (7, .int (nI n))]) hx hb dX9_rests_138 hl (by decide) rfl (fun ls hl => ?_)
                  refine lv_iload hx hb dX9_rests_140 (lv_at hl 1 rfl) ?_
                  refine lv_if_ne (tgt := 154) hx hb dX9_rests_142 (by decide) (fun c32 => ?_) (fun c32 => ?_)
                  · skip
                    exact absurd c32 (by decide)
                  · skip
                    refine lv_iload hx hb dX9_rests_145 (lv_at hl 0 rfl) ?_
                    refine lv_if_ne (tgt := 154) hx hb dX9_rests_147 (by decide) (fun c33 => ?_) (fun c33 => ?_)
                    · skip
                      exact absurd c33 (by decide)
                    · skip
                      refine lv_iconst (v := 1) hx hb dX9_rests_150 rfl ?_
                      refine lv_goto (tgt := 155) hx hb dX9_rests_151 (by decide) ?_
                      refine lv_istore (lv' := [(6, .int (1)), (9, .int (0)), (8, .int (0)), (0, .ref (o 0)), (1, .int (mi)), (2, .int (th)), (3, .int (nI C)), (4, .int (nI (C / 6))), (5, .int (nI (C % 6))), (7, .int (nI n))]) hx hb dX9_rests_155 hl (by decide) rfl (fun ls hl => ?_)
                      refine lv_iinc (v := nI (n + 1)) (lv' := [(7, .int (nI (n + 1))), (6, .int (1)), (9, .int (0)), (8, .int (0)), (0, .ref (o 0)), (1, .int (mi)), (2, .int (th)), (3, .int (nI C)), (4, .int (nI (C / 6))), (5, .int (nI (C % 6)))]) hx hb dX9_rests_157 hl (k := 9) rfl (inc_nI n) (by decide) rfl (fun ls hl => ?_)
                      refine lv_goto (tgt := 40) hx hb dX9_rests_160 (by decide) ?_
                      have e6 : b2i (rsL mi th gn C (n + 1)) = 1 := by simp [rsL, rsQ, b2i, c28, c28', c29, c30, c31]
                      have hl : lv_has ls 10 [(7, .int (nI (n + 1))), (6, .int (b2i (rsL mi th gn C (n + 1)))), (9, .int (0)), (8, .int (0)), (0, .ref (o 0)), (1, .int (mi)), (2, .int (th)), (3, .int (nI C)), (4, .int (nI (C / 6))), (5, .int (nI (C % 6)))] := by rw [e6]; exact hl
                      exact ih40 (n + 1) (by omega) (by omega) _ (lv_sub hl [4, 5, 6, 7, 8, 9, 1, 0] rfl)
                · skip
                  have c31 := b2i_1 c31
                  refine lv_aload_n hx hb dX9_rests_103 rfl (lv_at hl 1 rfl) ?_
                  refine kget hC.1 hK (kP_app.mp hP).1 0 rfl rfl in_9 16 (by decide) (gw_in m_976 rfl) rfl dX9_rests_104 ?_
                  refine lv_iconst (v := 2) hx hb dX9_rests_107 rfl ?_
                  refine lv_bipush (v := 6) hx hb dX9_rests_108 rfl ?_
                  refine lv_iload hx hb dX9_rests_110 (lv_at hl 5 rfl) ?_
                  refine lv_imul hx hb dX9_rests_112 ?_
                  refine top_i (x := 6 * (nI (C / 6))) (y := nI (6 * (C / 6))) (show nI 6 * _ = _ from pk_mul 6 _) ?_
                  refine lv_iload hx hb dX9_rests_113 (lv_at hl 8 rfl) ?_
                  refine lv_iadd hx hb dX9_rests_115 ?_
                  refine top_i (x := (nI (6 * (C / 6))) + (nI n)) (y := nI (6 * (C / 6) + n)) (nI_add _ _) ?_
                  refine lv_imul hx hb dX9_rests_116 ?_
                  refine top_i (x := 2 * (nI (6 * (C / 6) + n))) (y := nI (2 * (6 * (C / 6) + n))) (show nI 2 * _ = _ from pk_mul 2 _) ?_
                  refine lv_iconst (v := 1) hx hb dX9_rests_117 rfl ?_
                  refine lv_iadd hx hb dX9_rests_118 ?_
                  refine top_i (x := (nI (2 * (6 * (C / 6) + n))) + 1) (y := nI (2 * (6 * (C / 6) + n) + 1)) (nI_1 _) ?_
                  refine kald (v := gn (2 * (6 * (C / 6) + n) + 1)) hC.1 hK (kP_app.mp (kP_app.mp hP).2).1 0 rfl (vp_in_nI (by omega) (by omega)) (by rw [cl_nI (by omega)]) dX9_rests_119 ?_
                  refine lv_aload_n hx hb dX9_rests_120 rfl (lv_at hl 1 rfl) ?_
                  refine kget hC.1 hK (kP_app.mp hP).1 0 rfl rfl in_9 16 (by decide) (gw_in m_976 rfl) rfl dX9_rests_121 ?_
                  refine lv_iconst (v := 2) hx hb dX9_rests_124 rfl ?_
                  refine lv_iload_n hx hb dX9_rests_125 rfl (lv_at hl 4 rfl) ?_
                  refine lv_imul hx hb dX9_rests_126 ?_
                  refine top_i (x := 2 * (nI C)) (y := nI (2 * C)) (show nI 2 * _ = _ from pk_mul 2 _) ?_
                  refine lv_iconst (v := 1) hx hb dX9_rests_127 rfl ?_
                  refine lv_iadd hx hb dX9_rests_128 ?_
                  refine top_i (x := (nI (2 * C)) + 1) (y := nI (2 * C + 1)) (nI_1 _) ?_
                  refine kald (v := gn (2 * C + 1)) hC.1 hK (kP_app.mp (kP_app.mp hP).2).1 0 rfl (vp_in_nI (by omega) (by omega)) (by rw [cl_nI (by omega)]) dX9_rests_129 ?_
                  refine lv_icmp_le (tgt := 137) hx hb dX9_rests_130 (by decide) (fun c34 => ?_) (fun c34 => ?_)
                  · skip
                    have c34' := Int32.not_lt.mpr c34
                    refine lv_iconst (v := 0) hx hb dX9_rests_137 rfl ?_
                    refine lv_istore (lv' := [(9, .int (0)), (8, .int (0)), (0, .ref (o 0)), (1, .int (mi)), (2, .int (th)), (3, .int (nI C)), (4, .int (nI (C / 6))), (5, .int (nI (C % 6))), (6, .int (b2i (rsL mi th gn C n))), (7, .int (nI n))]) hx hb dX9_rests_138 hl (by decide) rfl (fun ls hl => ?_)
                    refine lv_iload hx hb dX9_rests_140 (lv_at hl 1 rfl) ?_
                    refine lv_if_ne (tgt := 154) hx hb dX9_rests_142 (by decide) (fun c35 => ?_) (fun c35 => ?_)
                    · skip
                      exact absurd c35 (by decide)
                    · skip
                      refine lv_iload hx hb dX9_rests_145 (lv_at hl 0 rfl) ?_
                      refine lv_if_ne (tgt := 154) hx hb dX9_rests_147 (by decide) (fun c36 => ?_) (fun c36 => ?_)
                      · skip
                        exact absurd c36 (by decide)
                      · skip
                        refine lv_iconst (v := 1) hx hb dX9_rests_150 rfl ?_
                        refine lv_goto (tgt := 155) hx hb dX9_rests_151 (by decide) ?_
                        refine lv_istore (lv' := [(6, .int (1)), (9, .int (0)), (8, .int (0)), (0, .ref (o 0)), (1, .int (mi)), (2, .int (th)), (3, .int (nI C)), (4, .int (nI (C / 6))), (5, .int (nI (C % 6))), (7, .int (nI n))]) hx hb dX9_rests_155 hl (by decide) rfl (fun ls hl => ?_)
                        refine lv_iinc (v := nI (n + 1)) (lv' := [(7, .int (nI (n + 1))), (6, .int (1)), (9, .int (0)), (8, .int (0)), (0, .ref (o 0)), (1, .int (mi)), (2, .int (th)), (3, .int (nI C)), (4, .int (nI (C / 6))), (5, .int (nI (C % 6)))]) hx hb dX9_rests_157 hl (k := 9) rfl (inc_nI n) (by decide) rfl (fun ls hl => ?_)
                        refine lv_goto (tgt := 40) hx hb dX9_rests_160 (by decide) ?_
                        have e6 : b2i (rsL mi th gn C (n + 1)) = 1 := by simp [rsL, rsQ, b2i, c28, c28', c29, c30, c31, c34, c34']
                        have hl : lv_has ls 10 [(7, .int (nI (n + 1))), (6, .int (b2i (rsL mi th gn C (n + 1)))), (9, .int (0)), (8, .int (0)), (0, .ref (o 0)), (1, .int (mi)), (2, .int (th)), (3, .int (nI C)), (4, .int (nI (C / 6))), (5, .int (nI (C % 6)))] := by rw [e6]; exact hl
                        exact ih40 (n + 1) (by omega) (by omega) _ (lv_sub hl [4, 5, 6, 7, 8, 9, 1, 0] rfl)
                  · skip
                    have c34' := Int32.not_le.mp c34
                    refine lv_iconst (v := 1) hx hb dX9_rests_133 rfl ?_
                    refine lv_goto (tgt := 138) hx hb dX9_rests_134 (by decide) ?_
                    refine lv_istore (lv' := [(9, .int (1)), (8, .int (0)), (0, .ref (o 0)), (1, .int (mi)), (2, .int (th)), (3, .int (nI C)), (4, .int (nI (C / 6))), (5, .int (nI (C % 6))), (6, .int (b2i (rsL mi th gn C n))), (7, .int (nI n))]) hx hb dX9_rests_138 hl (by decide) rfl (fun ls hl => ?_)
                    refine lv_iload hx hb dX9_rests_140 (lv_at hl 1 rfl) ?_
                    refine lv_if_ne (tgt := 154) hx hb dX9_rests_142 (by decide) (fun c37 => ?_) (fun c37 => ?_)
                    · skip
                      exact absurd c37 (by decide)
                    · skip
                      refine lv_iload hx hb dX9_rests_145 (lv_at hl 0 rfl) ?_
                      refine lv_if_ne (tgt := 154) hx hb dX9_rests_147 (by decide) (fun c38 => ?_) (fun c38 => ?_)
                      · skip
                        refine lv_iconst (v := 0) hx hb dX9_rests_154 rfl ?_
                        refine lv_istore (lv' := [(6, .int (0)), (9, .int (1)), (8, .int (0)), (0, .ref (o 0)), (1, .int (mi)), (2, .int (th)), (3, .int (nI C)), (4, .int (nI (C / 6))), (5, .int (nI (C % 6))), (7, .int (nI n))]) hx hb dX9_rests_155 hl (by decide) rfl (fun ls hl => ?_)
                        refine lv_iinc (v := nI (n + 1)) (lv' := [(7, .int (nI (n + 1))), (6, .int (0)), (9, .int (1)), (8, .int (0)), (0, .ref (o 0)), (1, .int (mi)), (2, .int (th)), (3, .int (nI C)), (4, .int (nI (C / 6))), (5, .int (nI (C % 6)))]) hx hb dX9_rests_157 hl (k := 9) rfl (inc_nI n) (by decide) rfl (fun ls hl => ?_)
                        refine lv_goto (tgt := 40) hx hb dX9_rests_160 (by decide) ?_
                        have e6 : b2i (rsL mi th gn C (n + 1)) = 0 := by simp [rsL, rsQ, b2i, c28, c28', c29, c30, c31, c34, c34']
                        have hl : lv_has ls 10 [(7, .int (nI (n + 1))), (6, .int (b2i (rsL mi th gn C (n + 1)))), (9, .int (1)), (8, .int (0)), (0, .ref (o 0)), (1, .int (mi)), (2, .int (th)), (3, .int (nI C)), (4, .int (nI (C / 6))), (5, .int (nI (C % 6)))] := by rw [e6]; exact hl
                        exact ih40 (n + 1) (by omega) (by omega) _ (lv_sub hl [4, 5, 6, 7, 8, 9, 1, 0] rfl)
                      · skip
                        exact absurd c38 (by decide)
              · skip
                have c30 := b2i_1 c30
                refine lv_aload_n hx hb dX9_rests_61 rfl (lv_at hl 0 rfl) ?_
                refine kget hC.1 hK (kP_app.mp hP).1 0 rfl rfl in_9 16 (by decide) (gw_in m_976 rfl) rfl dX9_rests_62 ?_
                refine lv_iconst (v := 2) hx hb dX9_rests_65 rfl ?_
                refine lv_bipush (v := 6) hx hb dX9_rests_66 rfl ?_
                refine lv_iload hx hb dX9_rests_68 (lv_at hl 7 rfl) ?_
                refine lv_imul hx hb dX9_rests_70 ?_
                refine top_i (x := 6 * (nI n)) (y := nI (6 * n)) (show nI 6 * nI n = _ from pk_mul 6 n) ?_
                refine lv_iload hx hb dX9_rests_71 (lv_at hl 5 rfl) ?_
                refine lv_iadd hx hb dX9_rests_73 ?_
                refine top_i (x := (nI (6 * n)) + (nI (C % 6))) (y := nI (6 * n + C % 6)) (nI_add _ _) ?_
                refine lv_imul hx hb dX9_rests_74 ?_
                refine top_i (x := 2 * (nI (6 * n + C % 6))) (y := nI (2 * (6 * n + C % 6))) (show nI 2 * _ = _ from pk_mul 2 _) ?_
                refine kald (v := gn (2 * (6 * n + C % 6))) hC.1 hK (kP_app.mp (kP_app.mp hP).2).1 0 rfl (vp_in_nI (by omega) (by omega)) (by rw [cl_nI (by omega)]) dX9_rests_75 ?_
                refine lv_aload_n hx hb dX9_rests_76 rfl (lv_at hl 0 rfl) ?_
                refine kget hC.1 hK (kP_app.mp hP).1 0 rfl rfl in_9 16 (by decide) (gw_in m_976 rfl) rfl dX9_rests_77 ?_
                refine lv_iconst (v := 2) hx hb dX9_rests_80 rfl ?_
                refine lv_iload_n hx hb dX9_rests_81 rfl (lv_at hl 3 rfl) ?_
                refine lv_imul hx hb dX9_rests_82 ?_
                refine top_i (x := 2 * (nI C)) (y := nI (2 * C)) (show nI 2 * _ = _ from pk_mul 2 _) ?_
                refine kald (v := gn (2 * C)) hC.1 hK (kP_app.mp (kP_app.mp hP).2).1 0 rfl (vp_in_nI (by omega) (by omega)) (by rw [cl_nI (by omega)]) dX9_rests_83 ?_
                refine lv_icmp_le (tgt := 91) hx hb dX9_rests_84 (by decide) (fun c39 => ?_) (fun c39 => ?_)
                · skip
                  have c39' := Int32.not_lt.mpr c39
                  refine lv_iconst (v := 0) hx hb dX9_rests_91 rfl ?_
                  refine lv_istore (lv' := [(8, .int (0)), (0, .ref (o 0)), (1, .int (mi)), (2, .int (th)), (3, .int (nI C)), (4, .int (nI (C / 6))), (5, .int (nI (C % 6))), (6, .int (b2i (rsL mi th gn C n))), (7, .int (nI n))]) hx hb dX9_rests_92 hl (by decide) rfl (fun ls hl => ?_)
                  refine lv_iload_n hx hb dX9_rests_94 rfl (lv_at hl 3 rfl) ?_
                  refine lv_iload hx hb dX9_rests_95 (lv_at hl 8 rfl) ?_
                  refine ro_i (run_S (As := [.int (th), .int (nI n)]) (rest := []) hC.1 ckX9_has (kX9_has l th (nI n)) (gw_in m_1225 rfl) (fb_nil _) (fun _ _ _ => trivial) ⟨rfl, rfl, Nat.le_of_ble_eq_true rfl, Nat.le_of_ble_eq_true rfl⟩ rfl hl.1 rfl (Nat.le_of_ble_eq_true rfl) dX9_rests_97 ⟨Nat.le_of_ble_eq_true rfl, Nat.le_of_ble_eq_true rfl⟩) ?_
                  refine lv_if_eq (tgt := 137) hx hb dX9_rests_100 (by decide) (fun c40 => ?_) (fun c40 => ?_)
                  · skip
                    have c40 := b2i_0 c40
                    refine lv_iconst (v := 0) hx hb dX9_rests_137 rfl ?_
                    refine lv_istore (lv' := [(9, .int (0)), (8, .int (0)), (0, .ref (o 0)), (1, .int (mi)), (2, .int (th)), (3, .int (nI C)), (4, .int (nI (C / 6))), (5, .int (nI (C % 6))), (6, .int (b2i (rsL mi th gn C n))), (7, .int (nI n))]) hx hb dX9_rests_138 hl (by decide) rfl (fun ls hl => ?_)
                    refine lv_iload hx hb dX9_rests_140 (lv_at hl 1 rfl) ?_
                    refine lv_if_ne (tgt := 154) hx hb dX9_rests_142 (by decide) (fun c41 => ?_) (fun c41 => ?_)
                    · skip
                      exact absurd c41 (by decide)
                    · skip
                      refine lv_iload hx hb dX9_rests_145 (lv_at hl 0 rfl) ?_
                      refine lv_if_ne (tgt := 154) hx hb dX9_rests_147 (by decide) (fun c42 => ?_) (fun c42 => ?_)
                      · skip
                        exact absurd c42 (by decide)
                      · skip
                        refine lv_iconst (v := 1) hx hb dX9_rests_150 rfl ?_
                        refine lv_goto (tgt := 155) hx hb dX9_rests_151 (by decide) ?_
                        refine lv_istore (lv' := [(6, .int (1)), (9, .int (0)), (8, .int (0)), (0, .ref (o 0)), (1, .int (mi)), (2, .int (th)), (3, .int (nI C)), (4, .int (nI (C / 6))), (5, .int (nI (C % 6))), (7, .int (nI n))]) hx hb dX9_rests_155 hl (by decide) rfl (fun ls hl => ?_)
                        refine lv_iinc (v := nI (n + 1)) (lv' := [(7, .int (nI (n + 1))), (6, .int (1)), (9, .int (0)), (8, .int (0)), (0, .ref (o 0)), (1, .int (mi)), (2, .int (th)), (3, .int (nI C)), (4, .int (nI (C / 6))), (5, .int (nI (C % 6)))]) hx hb dX9_rests_157 hl (k := 9) rfl (inc_nI n) (by decide) rfl (fun ls hl => ?_)
                        refine lv_goto (tgt := 40) hx hb dX9_rests_160 (by decide) ?_
                        have e6 : b2i (rsL mi th gn C (n + 1)) = 1 := by simp [rsL, rsQ, b2i, c28, c28', c29, c30, c39, c39', c40]
                        have hl : lv_has ls 10 [(7, .int (nI (n + 1))), (6, .int (b2i (rsL mi th gn C (n + 1)))), (9, .int (0)), (8, .int (0)), (0, .ref (o 0)), (1, .int (mi)), (2, .int (th)), (3, .int (nI C)), (4, .int (nI (C / 6))), (5, .int (nI (C % 6)))] := by rw [e6]; exact hl
                        exact ih40 (n + 1) (by omega) (by omega) _ (lv_sub hl [4, 5, 6, 7, 8, 9, 1, 0] rfl)
                  · skip
                    have c40 := b2i_1 c40
                    refine lv_aload_n hx hb dX9_rests_103 rfl (lv_at hl 1 rfl) ?_
                    refine kget hC.1 hK (kP_app.mp hP).1 0 rfl rfl in_9 16 (by decide) (gw_in m_976 rfl) rfl dX9_rests_104 ?_
                    refine lv_iconst (v := 2) hx hb dX9_rests_107 rfl ?_
                    refine lv_bipush (v := 6) hx hb dX9_rests_108 rfl ?_
                    refine lv_iload hx hb dX9_rests_110 (lv_at hl 5 rfl) ?_
                    refine lv_imul hx hb dX9_rests_112 ?_
                    refine top_i (x := 6 * (nI (C / 6))) (y := nI (6 * (C / 6))) (show nI 6 * _ = _ from pk_mul 6 _) ?_
                    refine lv_iload hx hb dX9_rests_113 (lv_at hl 8 rfl) ?_
                    refine lv_iadd hx hb dX9_rests_115 ?_
                    refine top_i (x := (nI (6 * (C / 6))) + (nI n)) (y := nI (6 * (C / 6) + n)) (nI_add _ _) ?_
                    refine lv_imul hx hb dX9_rests_116 ?_
                    refine top_i (x := 2 * (nI (6 * (C / 6) + n))) (y := nI (2 * (6 * (C / 6) + n))) (show nI 2 * _ = _ from pk_mul 2 _) ?_
                    refine lv_iconst (v := 1) hx hb dX9_rests_117 rfl ?_
                    refine lv_iadd hx hb dX9_rests_118 ?_
                    refine top_i (x := (nI (2 * (6 * (C / 6) + n))) + 1) (y := nI (2 * (6 * (C / 6) + n) + 1)) (nI_1 _) ?_
                    refine kald (v := gn (2 * (6 * (C / 6) + n) + 1)) hC.1 hK (kP_app.mp (kP_app.mp hP).2).1 0 rfl (vp_in_nI (by omega) (by omega)) (by rw [cl_nI (by omega)]) dX9_rests_119 ?_
                    refine lv_aload_n hx hb dX9_rests_120 rfl (lv_at hl 1 rfl) ?_
                    refine kget hC.1 hK (kP_app.mp hP).1 0 rfl rfl in_9 16 (by decide) (gw_in m_976 rfl) rfl dX9_rests_121 ?_
                    refine lv_iconst (v := 2) hx hb dX9_rests_124 rfl ?_
                    refine lv_iload_n hx hb dX9_rests_125 rfl (lv_at hl 4 rfl) ?_
                    refine lv_imul hx hb dX9_rests_126 ?_
                    refine top_i (x := 2 * (nI C)) (y := nI (2 * C)) (show nI 2 * _ = _ from pk_mul 2 _) ?_
                    refine lv_iconst (v := 1) hx hb dX9_rests_127 rfl ?_
                    refine lv_iadd hx hb dX9_rests_128 ?_
                    refine top_i (x := (nI (2 * C)) + 1) (y := nI (2 * C + 1)) (nI_1 _) ?_
                    refine kald (v := gn (2 * C + 1)) hC.1 hK (kP_app.mp (kP_app.mp hP).2).1 0 rfl (vp_in_nI (by omega) (by omega)) (by rw [cl_nI (by omega)]) dX9_rests_129 ?_
                    refine lv_icmp_le (tgt := 137) hx hb dX9_rests_130 (by decide) (fun c43 => ?_) (fun c43 => ?_)
                    · skip
                      have c43' := Int32.not_lt.mpr c43
                      refine lv_iconst (v := 0) hx hb dX9_rests_137 rfl ?_
                      refine lv_istore (lv' := [(9, .int (0)), (8, .int (0)), (0, .ref (o 0)), (1, .int (mi)), (2, .int (th)), (3, .int (nI C)), (4, .int (nI (C / 6))), (5, .int (nI (C % 6))), (6, .int (b2i (rsL mi th gn C n))), (7, .int (nI n))]) hx hb dX9_rests_138 hl (by decide) rfl (fun ls hl => ?_)
                      refine lv_iload hx hb dX9_rests_140 (lv_at hl 1 rfl) ?_
                      refine lv_if_ne (tgt := 154) hx hb dX9_rests_142 (by decide) (fun c44 => ?_) (fun c44 => ?_)
                      · skip
                        exact absurd c44 (by decide)
                      · skip
                        refine lv_iload hx hb dX9_rests_145 (lv_at hl 0 rfl) ?_
                        refine lv_if_ne (tgt := 154) hx hb dX9_rests_147 (by decide) (fun c45 => ?_) (fun c45 => ?_)
                        · skip
                          exact absurd c45 (by decide)
                        · skip
                          refine lv_iconst (v := 1) hx hb dX9_rests_150 rfl ?_
                          refine lv_goto (tgt := 155) hx hb dX9_rests_151 (by decide) ?_
                          refine lv_istore (lv' := [(6, .int (1)), (9, .int (0)), (8, .int (0)), (0, .ref (o 0)), (1, .int (mi)), (2, .int (th)), (3, .int (nI C)), (4, .int (nI (C / 6))), (5, .int (nI (C % 6))), (7, .int (nI n))]) hx hb dX9_rests_155 hl (by decide) rfl (fun ls hl => ?_)
                          refine lv_iinc (v := nI (n + 1)) (lv' := [(7, .int (nI (n + 1))), (6, .int (1)), (9, .int (0)), (8, .int (0)), (0, .ref (o 0)), (1, .int (mi)), (2, .int (th)), (3, .int (nI C)), (4, .int (nI (C / 6))), (5, .int (nI (C % 6)))]) hx hb dX9_rests_157 hl (k := 9) rfl (inc_nI n) (by decide) rfl (fun ls hl => ?_)
                          refine lv_goto (tgt := 40) hx hb dX9_rests_160 (by decide) ?_
                          have e6 : b2i (rsL mi th gn C (n + 1)) = 1 := by simp [rsL, rsQ, b2i, c28, c28', c29, c30, c39, c39', c40, c43, c43']
                          have hl : lv_has ls 10 [(7, .int (nI (n + 1))), (6, .int (b2i (rsL mi th gn C (n + 1)))), (9, .int (0)), (8, .int (0)), (0, .ref (o 0)), (1, .int (mi)), (2, .int (th)), (3, .int (nI C)), (4, .int (nI (C / 6))), (5, .int (nI (C % 6)))] := by rw [e6]; exact hl
                          exact ih40 (n + 1) (by omega) (by omega) _ (lv_sub hl [4, 5, 6, 7, 8, 9, 1, 0] rfl)
                    · skip
                      have c43' := Int32.not_le.mp c43
                      refine lv_iconst (v := 1) hx hb dX9_rests_133 rfl ?_
                      refine lv_goto (tgt := 138) hx hb dX9_rests_134 (by decide) ?_
                      refine lv_istore (lv' := [(9, .int (1)), (8, .int (0)), (0, .ref (o 0)), (1, .int (mi)), (2, .int (th)), (3, .int (nI C)), (4, .int (nI (C / 6))), (5, .int (nI (C % 6))), (6, .int (b2i (rsL mi th gn C n))), (7, .int (nI n))]) hx hb dX9_rests_138 hl (by decide) rfl (fun ls hl => ?_)
                      refine lv_iload hx hb dX9_rests_140 (lv_at hl 1 rfl) ?_
                      refine lv_if_ne (tgt := 154) hx hb dX9_rests_142 (by decide) (fun c46 => ?_) (fun c46 => ?_)
                      · skip
                        exact absurd c46 (by decide)
                      · skip
                        refine lv_iload hx hb dX9_rests_145 (lv_at hl 0 rfl) ?_
                        refine lv_if_ne (tgt := 154) hx hb dX9_rests_147 (by decide) (fun c47 => ?_) (fun c47 => ?_)
                        · skip
                          refine lv_iconst (v := 0) hx hb dX9_rests_154 rfl ?_
                          refine lv_istore (lv' := [(6, .int (0)), (9, .int (1)), (8, .int (0)), (0, .ref (o 0)), (1, .int (mi)), (2, .int (th)), (3, .int (nI C)), (4, .int (nI (C / 6))), (5, .int (nI (C % 6))), (7, .int (nI n))]) hx hb dX9_rests_155 hl (by decide) rfl (fun ls hl => ?_)
                          refine lv_iinc (v := nI (n + 1)) (lv' := [(7, .int (nI (n + 1))), (6, .int (0)), (9, .int (1)), (8, .int (0)), (0, .ref (o 0)), (1, .int (mi)), (2, .int (th)), (3, .int (nI C)), (4, .int (nI (C / 6))), (5, .int (nI (C % 6)))]) hx hb dX9_rests_157 hl (k := 9) rfl (inc_nI n) (by decide) rfl (fun ls hl => ?_)
                          refine lv_goto (tgt := 40) hx hb dX9_rests_160 (by decide) ?_
                          have e6 : b2i (rsL mi th gn C (n + 1)) = 0 := by simp [rsL, rsQ, b2i, c28, c28', c29, c30, c39, c39', c40, c43, c43']
                          have hl : lv_has ls 10 [(7, .int (nI (n + 1))), (6, .int (b2i (rsL mi th gn C (n + 1)))), (9, .int (1)), (8, .int (0)), (0, .ref (o 0)), (1, .int (mi)), (2, .int (th)), (3, .int (nI C)), (4, .int (nI (C / 6))), (5, .int (nI (C % 6)))] := by rw [e6]; exact hl
                          exact ih40 (n + 1) (by omega) (by omega) _ (lv_sub hl [4, 5, 6, 7, 8, 9, 1, 0] rfl)
                        · skip
                          exact absurd c47 (by decide)
                · skip
                  have c39' := Int32.not_le.mp c39
                  refine lv_iconst (v := 1) hx hb dX9_rests_87 rfl ?_
                  refine lv_goto (tgt := 92) hx hb dX9_rests_88 (by decide) ?_
                  refine lv_istore (lv' := [(8, .int (1)), (0, .ref (o 0)), (1, .int (mi)), (2, .int (th)), (3, .int (nI C)), (4, .int (nI (C / 6))), (5, .int (nI (C % 6))), (6, .int (b2i (rsL mi th gn C n))), (7, .int (nI n))]) hx hb dX9_rests_92 hl (by decide) rfl (fun ls hl => ?_)
                  refine lv_iload_n hx hb dX9_rests_94 rfl (lv_at hl 3 rfl) ?_
                  refine lv_iload hx hb dX9_rests_95 (lv_at hl 8 rfl) ?_
                  refine ro_i (run_S (As := [.int (th), .int (nI n)]) (rest := []) hC.1 ckX9_has (kX9_has l th (nI n)) (gw_in m_1225 rfl) (fb_nil _) (fun _ _ _ => trivial) ⟨rfl, rfl, Nat.le_of_ble_eq_true rfl, Nat.le_of_ble_eq_true rfl⟩ rfl hl.1 rfl (Nat.le_of_ble_eq_true rfl) dX9_rests_97 ⟨Nat.le_of_ble_eq_true rfl, Nat.le_of_ble_eq_true rfl⟩) ?_
                  refine lv_if_eq (tgt := 137) hx hb dX9_rests_100 (by decide) (fun c48 => ?_) (fun c48 => ?_)
                  · skip
                    have c48 := b2i_0 c48
                    refine lv_iconst (v := 0) hx hb dX9_rests_137 rfl ?_
                    refine lv_istore (lv' := [(9, .int (0)), (8, .int (1)), (0, .ref (o 0)), (1, .int (mi)), (2, .int (th)), (3, .int (nI C)), (4, .int (nI (C / 6))), (5, .int (nI (C % 6))), (6, .int (b2i (rsL mi th gn C n))), (7, .int (nI n))]) hx hb dX9_rests_138 hl (by decide) rfl (fun ls hl => ?_)
                    refine lv_iload hx hb dX9_rests_140 (lv_at hl 1 rfl) ?_
                    refine lv_if_ne (tgt := 154) hx hb dX9_rests_142 (by decide) (fun c49 => ?_) (fun c49 => ?_)
                    · skip
                      refine lv_iconst (v := 0) hx hb dX9_rests_154 rfl ?_
                      refine lv_istore (lv' := [(6, .int (0)), (9, .int (0)), (8, .int (1)), (0, .ref (o 0)), (1, .int (mi)), (2, .int (th)), (3, .int (nI C)), (4, .int (nI (C / 6))), (5, .int (nI (C % 6))), (7, .int (nI n))]) hx hb dX9_rests_155 hl (by decide) rfl (fun ls hl => ?_)
                      refine lv_iinc (v := nI (n + 1)) (lv' := [(7, .int (nI (n + 1))), (6, .int (0)), (9, .int (0)), (8, .int (1)), (0, .ref (o 0)), (1, .int (mi)), (2, .int (th)), (3, .int (nI C)), (4, .int (nI (C / 6))), (5, .int (nI (C % 6)))]) hx hb dX9_rests_157 hl (k := 9) rfl (inc_nI n) (by decide) rfl (fun ls hl => ?_)
                      refine lv_goto (tgt := 40) hx hb dX9_rests_160 (by decide) ?_
                      have e6 : b2i (rsL mi th gn C (n + 1)) = 0 := by simp [rsL, rsQ, b2i, c28, c28', c29, c30, c39, c39', c48]
                      have hl : lv_has ls 10 [(7, .int (nI (n + 1))), (6, .int (b2i (rsL mi th gn C (n + 1)))), (9, .int (0)), (8, .int (1)), (0, .ref (o 0)), (1, .int (mi)), (2, .int (th)), (3, .int (nI C)), (4, .int (nI (C / 6))), (5, .int (nI (C % 6)))] := by rw [e6]; exact hl
                      exact ih40 (n + 1) (by omega) (by omega) _ (lv_sub hl [4, 5, 6, 7, 8, 9, 1, 0] rfl)
                    · skip
                      exact absurd c49 (by decide)
                  · skip
                    have c48 := b2i_1 c48
                    refine lv_aload_n hx hb dX9_rests_103 rfl (lv_at hl 1 rfl) ?_
                    refine kget hC.1 hK (kP_app.mp hP).1 0 rfl rfl in_9 16 (by decide) (gw_in m_976 rfl) rfl dX9_rests_104 ?_
                    refine lv_iconst (v := 2) hx hb dX9_rests_107 rfl ?_
                    refine lv_bipush (v := 6) hx hb dX9_rests_108 rfl ?_
                    refine lv_iload hx hb dX9_rests_110 (lv_at hl 5 rfl) ?_
                    refine lv_imul hx hb dX9_rests_112 ?_
                    refine top_i (x := 6 * (nI (C / 6))) (y := nI (6 * (C / 6))) (show nI 6 * _ = _ from pk_mul 6 _) ?_
                    refine lv_iload hx hb dX9_rests_113 (lv_at hl 8 rfl) ?_
                    refine lv_iadd hx hb dX9_rests_115 ?_
                    refine top_i (x := (nI (6 * (C / 6))) + (nI n)) (y := nI (6 * (C / 6) + n)) (nI_add _ _) ?_
                    refine lv_imul hx hb dX9_rests_116 ?_
                    refine top_i (x := 2 * (nI (6 * (C / 6) + n))) (y := nI (2 * (6 * (C / 6) + n))) (show nI 2 * _ = _ from pk_mul 2 _) ?_
                    refine lv_iconst (v := 1) hx hb dX9_rests_117 rfl ?_
                    refine lv_iadd hx hb dX9_rests_118 ?_
                    refine top_i (x := (nI (2 * (6 * (C / 6) + n))) + 1) (y := nI (2 * (6 * (C / 6) + n) + 1)) (nI_1 _) ?_
                    refine kald (v := gn (2 * (6 * (C / 6) + n) + 1)) hC.1 hK (kP_app.mp (kP_app.mp hP).2).1 0 rfl (vp_in_nI (by omega) (by omega)) (by rw [cl_nI (by omega)]) dX9_rests_119 ?_
                    refine lv_aload_n hx hb dX9_rests_120 rfl (lv_at hl 1 rfl) ?_
                    refine kget hC.1 hK (kP_app.mp hP).1 0 rfl rfl in_9 16 (by decide) (gw_in m_976 rfl) rfl dX9_rests_121 ?_
                    refine lv_iconst (v := 2) hx hb dX9_rests_124 rfl ?_
                    refine lv_iload_n hx hb dX9_rests_125 rfl (lv_at hl 4 rfl) ?_
                    refine lv_imul hx hb dX9_rests_126 ?_
                    refine top_i (x := 2 * (nI C)) (y := nI (2 * C)) (show nI 2 * _ = _ from pk_mul 2 _) ?_
                    refine lv_iconst (v := 1) hx hb dX9_rests_127 rfl ?_
                    refine lv_iadd hx hb dX9_rests_128 ?_
                    refine top_i (x := (nI (2 * C)) + 1) (y := nI (2 * C + 1)) (nI_1 _) ?_
                    refine kald (v := gn (2 * C + 1)) hC.1 hK (kP_app.mp (kP_app.mp hP).2).1 0 rfl (vp_in_nI (by omega) (by omega)) (by rw [cl_nI (by omega)]) dX9_rests_129 ?_
                    refine lv_icmp_le (tgt := 137) hx hb dX9_rests_130 (by decide) (fun c50 => ?_) (fun c50 => ?_)
                    · skip
                      have c50' := Int32.not_lt.mpr c50
                      refine lv_iconst (v := 0) hx hb dX9_rests_137 rfl ?_
                      refine lv_istore (lv' := [(9, .int (0)), (8, .int (1)), (0, .ref (o 0)), (1, .int (mi)), (2, .int (th)), (3, .int (nI C)), (4, .int (nI (C / 6))), (5, .int (nI (C % 6))), (6, .int (b2i (rsL mi th gn C n))), (7, .int (nI n))]) hx hb dX9_rests_138 hl (by decide) rfl (fun ls hl => ?_)
                      refine lv_iload hx hb dX9_rests_140 (lv_at hl 1 rfl) ?_
                      refine lv_if_ne (tgt := 154) hx hb dX9_rests_142 (by decide) (fun c51 => ?_) (fun c51 => ?_)
                      · skip
                        refine lv_iconst (v := 0) hx hb dX9_rests_154 rfl ?_
                        refine lv_istore (lv' := [(6, .int (0)), (9, .int (0)), (8, .int (1)), (0, .ref (o 0)), (1, .int (mi)), (2, .int (th)), (3, .int (nI C)), (4, .int (nI (C / 6))), (5, .int (nI (C % 6))), (7, .int (nI n))]) hx hb dX9_rests_155 hl (by decide) rfl (fun ls hl => ?_)
                        refine lv_iinc (v := nI (n + 1)) (lv' := [(7, .int (nI (n + 1))), (6, .int (0)), (9, .int (0)), (8, .int (1)), (0, .ref (o 0)), (1, .int (mi)), (2, .int (th)), (3, .int (nI C)), (4, .int (nI (C / 6))), (5, .int (nI (C % 6)))]) hx hb dX9_rests_157 hl (k := 9) rfl (inc_nI n) (by decide) rfl (fun ls hl => ?_)
                        refine lv_goto (tgt := 40) hx hb dX9_rests_160 (by decide) ?_
                        have e6 : b2i (rsL mi th gn C (n + 1)) = 0 := by simp [rsL, rsQ, b2i, c28, c28', c29, c30, c39, c39', c48, c50, c50']
                        have hl : lv_has ls 10 [(7, .int (nI (n + 1))), (6, .int (b2i (rsL mi th gn C (n + 1)))), (9, .int (0)), (8, .int (1)), (0, .ref (o 0)), (1, .int (mi)), (2, .int (th)), (3, .int (nI C)), (4, .int (nI (C / 6))), (5, .int (nI (C % 6)))] := by rw [e6]; exact hl
                        exact ih40 (n + 1) (by omega) (by omega) _ (lv_sub hl [4, 5, 6, 7, 8, 9, 1, 0] rfl)
                      · skip
                        exact absurd c51 (by decide)
                    · skip
                      have c50' := Int32.not_le.mp c50
                      refine lv_iconst (v := 1) hx hb dX9_rests_133 rfl ?_
                      refine lv_goto (tgt := 138) hx hb dX9_rests_134 (by decide) ?_
                      refine lv_istore (lv' := [(9, .int (1)), (8, .int (1)), (0, .ref (o 0)), (1, .int (mi)), (2, .int (th)), (3, .int (nI C)), (4, .int (nI (C / 6))), (5, .int (nI (C % 6))), (6, .int (b2i (rsL mi th gn C n))), (7, .int (nI n))]) hx hb dX9_rests_138 hl (by decide) rfl (fun ls hl => ?_)
                      refine lv_iload hx hb dX9_rests_140 (lv_at hl 1 rfl) ?_
                      refine lv_if_ne (tgt := 154) hx hb dX9_rests_142 (by decide) (fun c52 => ?_) (fun c52 => ?_)
                      · skip
                        refine lv_iconst (v := 0) hx hb dX9_rests_154 rfl ?_
                        refine lv_istore (lv' := [(6, .int (0)), (9, .int (1)), (8, .int (1)), (0, .ref (o 0)), (1, .int (mi)), (2, .int (th)), (3, .int (nI C)), (4, .int (nI (C / 6))), (5, .int (nI (C % 6))), (7, .int (nI n))]) hx hb dX9_rests_155 hl (by decide) rfl (fun ls hl => ?_)
                        refine lv_iinc (v := nI (n + 1)) (lv' := [(7, .int (nI (n + 1))), (6, .int (0)), (9, .int (1)), (8, .int (1)), (0, .ref (o 0)), (1, .int (mi)), (2, .int (th)), (3, .int (nI C)), (4, .int (nI (C / 6))), (5, .int (nI (C % 6)))]) hx hb dX9_rests_157 hl (k := 9) rfl (inc_nI n) (by decide) rfl (fun ls hl => ?_)
                        refine lv_goto (tgt := 40) hx hb dX9_rests_160 (by decide) ?_
                        have e6 : b2i (rsL mi th gn C (n + 1)) = 0 := by simp [rsL, rsQ, b2i, c28, c28', c29, c30, c39, c39', c48, c50, c50']
                        have hl : lv_has ls 10 [(7, .int (nI (n + 1))), (6, .int (b2i (rsL mi th gn C (n + 1)))), (9, .int (1)), (8, .int (1)), (0, .ref (o 0)), (1, .int (mi)), (2, .int (th)), (3, .int (nI C)), (4, .int (nI (C / 6))), (5, .int (nI (C % 6)))] := by rw [e6]; exact hl
                        exact ih40 (n + 1) (by omega) (by omega) _ (lv_sub hl [4, 5, 6, 7, 8, 9, 1, 0] rfl)
                      · skip
                        exact absurd c52 (by decide)
      have e6 : b2i (rsL mi th gn C 0) = 0 := by simp [rsL, b2i, c1, c27]
      have hl : lv_has ls 10 [(7, .int (0)), (6, .int (b2i (rsL mi th gn C 0))), (5, .int (nI (C % 6))), (4, .int (nI (C / 6))), (0, .ref (o 0)), (1, .int (mi)), (2, .int (th)), (3, .int (nI C))] := by rw [e6]; exact hl
      exact cut40 _ 0 (Nat.lt_succ_self _) (by omega) _ (lv_sub hl [4, 5, 6, 7, 3, 2, 1, 0] rfl)
    · skip
      have c27 := b2i_1 c27
      refine lv_iconst (v := 1) hx hb dX9_rests_30 rfl ?_
      refine lv_goto (tgt := 35) hx hb dX9_rests_31 (by decide) ?_
      refine lv_istore (lv' := [(6, .int (1)), (5, .int (nI (C % 6))), (4, .int (nI (C / 6))), (0, .ref (o 0)), (1, .int (mi)), (2, .int (th)), (3, .int (nI C))]) hx hb dX9_rests_35 hl (by decide) rfl (fun ls hl => ?_)
      refine lv_iconst (v := 0) hx hb dX9_rests_37 rfl ?_
      refine lv_istore (lv' := [(7, .int (0)), (6, .int (1)), (5, .int (nI (C % 6))), (4, .int (nI (C / 6))), (0, .ref (o 0)), (1, .int (mi)), (2, .int (th)), (3, .int (nI C))]) hx hb dX9_rests_38 hl (by decide) rfl (fun ls hl => ?_)
      have cut40 : ∀ kk : Nat, ∀ (n : Nat), 7 - n < kk → (hn : n ≤ 6) → ∀ (ls : Array Slot), lv_has ls 10 [(0, .ref (o 0)), (1, .int (mi)), (2, .int (th)), (3, .int (nI C)), (4, .int (nI (C / 6))), (5, .int (nI (C % 6))), (6, .int (b2i (rsL mi th gn C n))), (7, .int (nI n))] → W pp l ee (rmN 1) ss mm ([.ref (o 0), .int (mi), .int (th), .int (nI C)] : List Value).toArray bl mt cd ss.heap [] 0 0 (MQ bl (vp_Si (fun v => v = (b2i (rsL mi th gn C 6)))) ([.ref (o 0), .int (mi), .int (th), .int (nI C)] : List Value).toArray ss 0 0 (fun _ => False)) (F0 mm 40 ls []) := by
        intro kk
        induction kk with
        | zero => intro n hmu; exact absurd hmu (Nat.not_lt_zero _)
        | succ kk ih40 =>
          intro n hmu hn ls hl
          refine lv_iload hx hb dX9_rests_40 (lv_at hl 7 rfl) ?_
          refine lv_bipush (v := 6) hx hb dX9_rests_42 rfl ?_
          refine lv_icmp_ge (tgt := 163) hx hb dX9_rests_44 (by decide) (fun c53 => ?_) (fun c53 => ?_)
          · skip
            have c53' := Int32.not_lt.mpr c53
            have hn9 : n = 6 := by have := lp_ge (by omega) c53; rw [show (6 : Int32).toInt = 6 from rfl] at this; omega
            have hfin : rsL mi th gn C 6 = rsL mi th gn C n := by rw [hn9]
            refine lv_iload hx hb dX9_rests_163 (lv_at hl 6 rfl) ?_
            exact ret_roz hx hb hr hlk rfl (by rw [hfin]) dX9_rests_165
          · skip
            have c53' := Int32.not_le.mp c53
            have hn9 : n < 6 := by have := lp_lt (by omega) c53; rw [show (6 : Int32).toInt = 6 from rfl] at this; omega
            refine lv_iload hx hb dX9_rests_47 (lv_at hl 6 rfl) ?_
            refine lv_if_eq (tgt := 163) hx hb dX9_rests_49 (by decide) (fun c54 => ?_) (fun c54 => ?_)
            · skip
              have c54 := b2i_0 c54
              have hfin : rsL mi th gn C 6 = rsL mi th gn C n := rsL_stop c54 hn
              refine lv_iload hx hb dX9_rests_163 (lv_at hl 6 rfl) ?_
              exact ret_roz hx hb hr hlk rfl (by rw [hfin]) dX9_rests_165
            · skip
              have c54 := b2i_1 c54
              refine lv_iload_n hx hb dX9_rests_52 rfl (lv_at hl 1 rfl) ?_
              refine lv_iload hx hb dX9_rests_53 (lv_at hl 7 rfl) ?_
              refine ro_i (run_S (As := [.int (mi), .int (nI n)]) (rest := []) hC.1 ckX9_has (kX9_has l mi (nI n)) (gw_in m_1225 rfl) (fb_nil _) (fun _ _ _ => trivial) ⟨rfl, rfl, Nat.le_of_ble_eq_true rfl, Nat.le_of_ble_eq_true rfl⟩ rfl hl.1 rfl (Nat.le_of_ble_eq_true rfl) dX9_rests_55 ⟨Nat.le_of_ble_eq_true rfl, Nat.le_of_ble_eq_true rfl⟩) ?_
              refine lv_if_eq (tgt := 91) hx hb dX9_rests_58 (by decide) (fun c55 => ?_) (fun c55 => ?_)
              · skip
                have c55 := b2i_0 c55
                refine lv_iconst (v := 0) hx hb dX9_rests_91 rfl ?_
                refine lv_istore (lv' := [(8, .int (0)), (0, .ref (o 0)), (1, .int (mi)), (2, .int (th)), (3, .int (nI C)), (4, .int (nI (C / 6))), (5, .int (nI (C % 6))), (6, .int (b2i (rsL mi th gn C n))), (7, .int (nI n))]) hx hb dX9_rests_92 hl (by decide) rfl (fun ls hl => ?_)
                refine lv_iload_n hx hb dX9_rests_94 rfl (lv_at hl 3 rfl) ?_
                refine lv_iload hx hb dX9_rests_95 (lv_at hl 8 rfl) ?_
                refine ro_i (run_S (As := [.int (th), .int (nI n)]) (rest := []) hC.1 ckX9_has (kX9_has l th (nI n)) (gw_in m_1225 rfl) (fb_nil _) (fun _ _ _ => trivial) ⟨rfl, rfl, Nat.le_of_ble_eq_true rfl, Nat.le_of_ble_eq_true rfl⟩ rfl hl.1 rfl (Nat.le_of_ble_eq_true rfl) dX9_rests_97 ⟨Nat.le_of_ble_eq_true rfl, Nat.le_of_ble_eq_true rfl⟩) ?_
                refine lv_if_eq (tgt := 137) hx hb dX9_rests_100 (by decide) (fun c56 => ?_) (fun c56 => ?_)
                · skip
                  have c56 := b2i_0 c56
                  refine lv_iconst (v := 0) hx hb dX9_rests_137 rfl ?_
                  refine lv_istore (lv' := [(9, .int (0)), (8, .int (0)), (0, .ref (o 0)), (1, .int (mi)), (2, .int (th)), (3, .int (nI C)), (4, .int (nI (C / 6))), (5, .int (nI (C % 6))), (6, .int (b2i (rsL mi th gn C n))), (7, .int (nI n))]) hx hb dX9_rests_138 hl (by decide) rfl (fun ls hl => ?_)
                  refine lv_iload hx hb dX9_rests_140 (lv_at hl 1 rfl) ?_
                  refine lv_if_ne (tgt := 154) hx hb dX9_rests_142 (by decide) (fun c57 => ?_) (fun c57 => ?_)
                  · skip
                    exact absurd c57 (by decide)
                  · skip
                    refine lv_iload hx hb dX9_rests_145 (lv_at hl 0 rfl) ?_
                    refine lv_if_ne (tgt := 154) hx hb dX9_rests_147 (by decide) (fun c58 => ?_) (fun c58 => ?_)
                    · skip
                      exact absurd c58 (by decide)
                    · skip
                      refine lv_iconst (v := 1) hx hb dX9_rests_150 rfl ?_
                      refine lv_goto (tgt := 155) hx hb dX9_rests_151 (by decide) ?_
                      refine lv_istore (lv' := [(6, .int (1)), (9, .int (0)), (8, .int (0)), (0, .ref (o 0)), (1, .int (mi)), (2, .int (th)), (3, .int (nI C)), (4, .int (nI (C / 6))), (5, .int (nI (C % 6))), (7, .int (nI n))]) hx hb dX9_rests_155 hl (by decide) rfl (fun ls hl => ?_)
                      refine lv_iinc (v := nI (n + 1)) (lv' := [(7, .int (nI (n + 1))), (6, .int (1)), (9, .int (0)), (8, .int (0)), (0, .ref (o 0)), (1, .int (mi)), (2, .int (th)), (3, .int (nI C)), (4, .int (nI (C / 6))), (5, .int (nI (C % 6)))]) hx hb dX9_rests_157 hl (k := 9) rfl (inc_nI n) (by decide) rfl (fun ls hl => ?_)
                      refine lv_goto (tgt := 40) hx hb dX9_rests_160 (by decide) ?_
                      have e6 : b2i (rsL mi th gn C (n + 1)) = 1 := by simp [rsL, rsQ, b2i, c53, c53', c54, c55, c56]
                      have hl : lv_has ls 10 [(7, .int (nI (n + 1))), (6, .int (b2i (rsL mi th gn C (n + 1)))), (9, .int (0)), (8, .int (0)), (0, .ref (o 0)), (1, .int (mi)), (2, .int (th)), (3, .int (nI C)), (4, .int (nI (C / 6))), (5, .int (nI (C % 6)))] := by rw [e6]; exact hl
                      exact ih40 (n + 1) (by omega) (by omega) _ (lv_sub hl [4, 5, 6, 7, 8, 9, 1, 0] rfl)
                · skip
                  have c56 := b2i_1 c56
                  refine lv_aload_n hx hb dX9_rests_103 rfl (lv_at hl 1 rfl) ?_
                  refine kget hC.1 hK (kP_app.mp hP).1 0 rfl rfl in_9 16 (by decide) (gw_in m_976 rfl) rfl dX9_rests_104 ?_
                  refine lv_iconst (v := 2) hx hb dX9_rests_107 rfl ?_
                  refine lv_bipush (v := 6) hx hb dX9_rests_108 rfl ?_
                  refine lv_iload hx hb dX9_rests_110 (lv_at hl 5 rfl) ?_
                  refine lv_imul hx hb dX9_rests_112 ?_
                  refine top_i (x := 6 * (nI (C / 6))) (y := nI (6 * (C / 6))) (show nI 6 * _ = _ from pk_mul 6 _) ?_
                  refine lv_iload hx hb dX9_rests_113 (lv_at hl 8 rfl) ?_
                  refine lv_iadd hx hb dX9_rests_115 ?_
                  refine top_i (x := (nI (6 * (C / 6))) + (nI n)) (y := nI (6 * (C / 6) + n)) (nI_add _ _) ?_
                  refine lv_imul hx hb dX9_rests_116 ?_
                  refine top_i (x := 2 * (nI (6 * (C / 6) + n))) (y := nI (2 * (6 * (C / 6) + n))) (show nI 2 * _ = _ from pk_mul 2 _) ?_
                  refine lv_iconst (v := 1) hx hb dX9_rests_117 rfl ?_
                  refine lv_iadd hx hb dX9_rests_118 ?_
                  refine top_i (x := (nI (2 * (6 * (C / 6) + n))) + 1) (y := nI (2 * (6 * (C / 6) + n) + 1)) (nI_1 _) ?_
                  refine kald (v := gn (2 * (6 * (C / 6) + n) + 1)) hC.1 hK (kP_app.mp (kP_app.mp hP).2).1 0 rfl (vp_in_nI (by omega) (by omega)) (by rw [cl_nI (by omega)]) dX9_rests_119 ?_
                  refine lv_aload_n hx hb dX9_rests_120 rfl (lv_at hl 1 rfl) ?_
                  refine kget hC.1 hK (kP_app.mp hP).1 0 rfl rfl in_9 16 (by decide) (gw_in m_976 rfl) rfl dX9_rests_121 ?_
                  refine lv_iconst (v := 2) hx hb dX9_rests_124 rfl ?_
                  refine lv_iload_n hx hb dX9_rests_125 rfl (lv_at hl 4 rfl) ?_
                  refine lv_imul hx hb dX9_rests_126 ?_
                  refine top_i (x := 2 * (nI C)) (y := nI (2 * C)) (show nI 2 * _ = _ from pk_mul 2 _) ?_
                  refine lv_iconst (v := 1) hx hb dX9_rests_127 rfl ?_
                  refine lv_iadd hx hb dX9_rests_128 ?_
                  refine top_i (x := (nI (2 * C)) + 1) (y := nI (2 * C + 1)) (nI_1 _) ?_
                  refine kald (v := gn (2 * C + 1)) hC.1 hK (kP_app.mp (kP_app.mp hP).2).1 0 rfl (vp_in_nI (by omega) (by omega)) (by rw [cl_nI (by omega)]) dX9_rests_129 ?_
                  refine lv_icmp_le (tgt := 137) hx hb dX9_rests_130 (by decide) (fun c59 => ?_) (fun c59 => ?_)
                  · skip
                    have c59' := Int32.not_lt.mpr c59
                    refine lv_iconst (v := 0) hx hb dX9_rests_137 rfl ?_
                    refine lv_istore (lv' := [(9, .int (0)), (8, .int (0)), (0, .ref (o 0)), (1, .int (mi)), (2, .int (th)), (3, .int (nI C)), (4, .int (nI (C / 6))), (5, .int (nI (C % 6))), (6, .int (b2i (rsL mi th gn C n))), (7, .int (nI n))]) hx hb dX9_rests_138 hl (by decide) rfl (fun ls hl => ?_)
                    refine lv_iload hx hb dX9_rests_140 (lv_at hl 1 rfl) ?_
                    refine lv_if_ne (tgt := 154) hx hb dX9_rests_142 (by decide) (fun c60 => ?_) (fun c60 => ?_)
                    · skip
                      exact absurd c60 (by decide)
                    · skip
                      refine lv_iload hx hb dX9_rests_145 (lv_at hl 0 rfl) ?_
                      refine lv_if_ne (tgt := 154) hx hb dX9_rests_147 (by decide) (fun c61 => ?_) (fun c61 => ?_)
                      · skip
                        exact absurd c61 (by decide)
                      · skip
                        refine lv_iconst (v := 1) hx hb dX9_rests_150 rfl ?_
                        refine lv_goto (tgt := 155) hx hb dX9_rests_151 (by decide) ?_
                        refine lv_istore (lv' := [(6, .int (1)), (9, .int (0)), (8, .int (0)), (0, .ref (o 0)), (1, .int (mi)), (2, .int (th)), (3, .int (nI C)), (4, .int (nI (C / 6))), (5, .int (nI (C % 6))), (7, .int (nI n))]) hx hb dX9_rests_155 hl (by decide) rfl (fun ls hl => ?_)
                        refine lv_iinc (v := nI (n + 1)) (lv' := [(7, .int (nI (n + 1))), (6, .int (1)), (9, .int (0)), (8, .int (0)), (0, .ref (o 0)), (1, .int (mi)), (2, .int (th)), (3, .int (nI C)), (4, .int (nI (C / 6))), (5, .int (nI (C % 6)))]) hx hb dX9_rests_157 hl (k := 9) rfl (inc_nI n) (by decide) rfl (fun ls hl => ?_)
                        refine lv_goto (tgt := 40) hx hb dX9_rests_160 (by decide) ?_
                        have e6 : b2i (rsL mi th gn C (n + 1)) = 1 := by simp [rsL, rsQ, b2i, c53, c53', c54, c55, c56, c59, c59']
                        have hl : lv_has ls 10 [(7, .int (nI (n + 1))), (6, .int (b2i (rsL mi th gn C (n + 1)))), (9, .int (0)), (8, .int (0)), (0, .ref (o 0)), (1, .int (mi)), (2, .int (th)), (3, .int (nI C)), (4, .int (nI (C / 6))), (5, .int (nI (C % 6)))] := by rw [e6]; exact hl
                        exact ih40 (n + 1) (by omega) (by omega) _ (lv_sub hl [4, 5, 6, 7, 8, 9, 1, 0] rfl)
                  · skip
                    have c59' := Int32.not_le.mp c59
                    refine lv_iconst (v := 1) hx hb dX9_rests_133 rfl ?_
                    refine lv_goto (tgt := 138) hx hb dX9_rests_134 (by decide) ?_
                    refine lv_istore (lv' := [(9, .int (1)), (8, .int (0)), (0, .ref (o 0)), (1, .int (mi)), (2, .int (th)), (3, .int (nI C)), (4, .int (nI (C / 6))), (5, .int (nI (C % 6))), (6, .int (b2i (rsL mi th gn C n))), (7, .int (nI n))]) hx hb dX9_rests_138 hl (by decide) rfl (fun ls hl => ?_)
                    refine lv_iload hx hb dX9_rests_140 (lv_at hl 1 rfl) ?_
                    refine lv_if_ne (tgt := 154) hx hb dX9_rests_142 (by decide) (fun c62 => ?_) (fun c62 => ?_)
                    · skip
                      exact absurd c62 (by decide)
                    · skip
                      refine lv_iload hx hb dX9_rests_145 (lv_at hl 0 rfl) ?_
                      refine lv_if_ne (tgt := 154) hx hb dX9_rests_147 (by decide) (fun c63 => ?_) (fun c63 => ?_)
                      · skip
                        refine lv_iconst (v := 0) hx hb dX9_rests_154 rfl ?_
                        refine lv_istore (lv' := [(6, .int (0)), (9, .int (1)), (8, .int (0)), (0, .ref (o 0)), (1, .int (mi)), (2, .int (th)), (3, .int (nI C)), (4, .int (nI (C / 6))), (5, .int (nI (C % 6))), (7, .int (nI n))]) hx hb dX9_rests_155 hl (by decide) rfl (fun ls hl => ?_)
                        refine lv_iinc (v := nI (n + 1)) (lv' := [(7, .int (nI (n + 1))), (6, .int (0)), (9, .int (1)), (8, .int (0)), (0, .ref (o 0)), (1, .int (mi)), (2, .int (th)), (3, .int (nI C)), (4, .int (nI (C / 6))), (5, .int (nI (C % 6)))]) hx hb dX9_rests_157 hl (k := 9) rfl (inc_nI n) (by decide) rfl (fun ls hl => ?_)
                        refine lv_goto (tgt := 40) hx hb dX9_rests_160 (by decide) ?_
                        have e6 : b2i (rsL mi th gn C (n + 1)) = 0 := by simp [rsL, rsQ, b2i, c53, c53', c54, c55, c56, c59, c59']
                        have hl : lv_has ls 10 [(7, .int (nI (n + 1))), (6, .int (b2i (rsL mi th gn C (n + 1)))), (9, .int (1)), (8, .int (0)), (0, .ref (o 0)), (1, .int (mi)), (2, .int (th)), (3, .int (nI C)), (4, .int (nI (C / 6))), (5, .int (nI (C % 6)))] := by rw [e6]; exact hl
                        exact ih40 (n + 1) (by omega) (by omega) _ (lv_sub hl [4, 5, 6, 7, 8, 9, 1, 0] rfl)
                      · skip
                        exact absurd c63 (by decide)
              · skip
                have c55 := b2i_1 c55
                refine lv_aload_n hx hb dX9_rests_61 rfl (lv_at hl 0 rfl) ?_
                refine kget hC.1 hK (kP_app.mp hP).1 0 rfl rfl in_9 16 (by decide) (gw_in m_976 rfl) rfl dX9_rests_62 ?_
                refine lv_iconst (v := 2) hx hb dX9_rests_65 rfl ?_
                refine lv_bipush (v := 6) hx hb dX9_rests_66 rfl ?_
                refine lv_iload hx hb dX9_rests_68 (lv_at hl 7 rfl) ?_
                refine lv_imul hx hb dX9_rests_70 ?_
                refine top_i (x := 6 * (nI n)) (y := nI (6 * n)) (show nI 6 * nI n = _ from pk_mul 6 n) ?_
                refine lv_iload hx hb dX9_rests_71 (lv_at hl 5 rfl) ?_
                refine lv_iadd hx hb dX9_rests_73 ?_
                refine top_i (x := (nI (6 * n)) + (nI (C % 6))) (y := nI (6 * n + C % 6)) (nI_add _ _) ?_
                refine lv_imul hx hb dX9_rests_74 ?_
                refine top_i (x := 2 * (nI (6 * n + C % 6))) (y := nI (2 * (6 * n + C % 6))) (show nI 2 * _ = _ from pk_mul 2 _) ?_
                refine kald (v := gn (2 * (6 * n + C % 6))) hC.1 hK (kP_app.mp (kP_app.mp hP).2).1 0 rfl (vp_in_nI (by omega) (by omega)) (by rw [cl_nI (by omega)]) dX9_rests_75 ?_
                refine lv_aload_n hx hb dX9_rests_76 rfl (lv_at hl 0 rfl) ?_
                refine kget hC.1 hK (kP_app.mp hP).1 0 rfl rfl in_9 16 (by decide) (gw_in m_976 rfl) rfl dX9_rests_77 ?_
                refine lv_iconst (v := 2) hx hb dX9_rests_80 rfl ?_
                refine lv_iload_n hx hb dX9_rests_81 rfl (lv_at hl 3 rfl) ?_
                refine lv_imul hx hb dX9_rests_82 ?_
                refine top_i (x := 2 * (nI C)) (y := nI (2 * C)) (show nI 2 * _ = _ from pk_mul 2 _) ?_
                refine kald (v := gn (2 * C)) hC.1 hK (kP_app.mp (kP_app.mp hP).2).1 0 rfl (vp_in_nI (by omega) (by omega)) (by rw [cl_nI (by omega)]) dX9_rests_83 ?_
                refine lv_icmp_le (tgt := 91) hx hb dX9_rests_84 (by decide) (fun c64 => ?_) (fun c64 => ?_)
                · skip
                  have c64' := Int32.not_lt.mpr c64
                  refine lv_iconst (v := 0) hx hb dX9_rests_91 rfl ?_
                  refine lv_istore (lv' := [(8, .int (0)), (0, .ref (o 0)), (1, .int (mi)), (2, .int (th)), (3, .int (nI C)), (4, .int (nI (C / 6))), (5, .int (nI (C % 6))), (6, .int (b2i (rsL mi th gn C n))), (7, .int (nI n))]) hx hb dX9_rests_92 hl (by decide) rfl (fun ls hl => ?_)
                  refine lv_iload_n hx hb dX9_rests_94 rfl (lv_at hl 3 rfl) ?_
                  refine lv_iload hx hb dX9_rests_95 (lv_at hl 8 rfl) ?_
                  refine ro_i (run_S (As := [.int (th), .int (nI n)]) (rest := []) hC.1 ckX9_has (kX9_has l th (nI n)) (gw_in m_1225 rfl) (fb_nil _) (fun _ _ _ => trivial) ⟨rfl, rfl, Nat.le_of_ble_eq_true rfl, Nat.le_of_ble_eq_true rfl⟩ rfl hl.1 rfl (Nat.le_of_ble_eq_true rfl) dX9_rests_97 ⟨Nat.le_of_ble_eq_true rfl, Nat.le_of_ble_eq_true rfl⟩) ?_
                  refine lv_if_eq (tgt := 137) hx hb dX9_rests_100 (by decide) (fun c65 => ?_) (fun c65 => ?_)
                  · skip
                    have c65 := b2i_0 c65
                    refine lv_iconst (v := 0) hx hb dX9_rests_137 rfl ?_
                    refine lv_istore (lv' := [(9, .int (0)), (8, .int (0)), (0, .ref (o 0)), (1, .int (mi)), (2, .int (th)), (3, .int (nI C)), (4, .int (nI (C / 6))), (5, .int (nI (C % 6))), (6, .int (b2i (rsL mi th gn C n))), (7, .int (nI n))]) hx hb dX9_rests_138 hl (by decide) rfl (fun ls hl => ?_)
                    refine lv_iload hx hb dX9_rests_140 (lv_at hl 1 rfl) ?_
                    refine lv_if_ne (tgt := 154) hx hb dX9_rests_142 (by decide) (fun c66 => ?_) (fun c66 => ?_)
                    · skip
                      exact absurd c66 (by decide)
                    · skip
                      refine lv_iload hx hb dX9_rests_145 (lv_at hl 0 rfl) ?_
                      refine lv_if_ne (tgt := 154) hx hb dX9_rests_147 (by decide) (fun c67 => ?_) (fun c67 => ?_)
                      · skip
                        exact absurd c67 (by decide)
                      · skip
                        refine lv_iconst (v := 1) hx hb dX9_rests_150 rfl ?_
                        refine lv_goto (tgt := 155) hx hb dX9_rests_151 (by decide) ?_
                        refine lv_istore (lv' := [(6, .int (1)), (9, .int (0)), (8, .int (0)), (0, .ref (o 0)), (1, .int (mi)), (2, .int (th)), (3, .int (nI C)), (4, .int (nI (C / 6))), (5, .int (nI (C % 6))), (7, .int (nI n))]) hx hb dX9_rests_155 hl (by decide) rfl (fun ls hl => ?_)
                        refine lv_iinc (v := nI (n + 1)) (lv' := [(7, .int (nI (n + 1))), (6, .int (1)), (9, .int (0)), (8, .int (0)), (0, .ref (o 0)), (1, .int (mi)), (2, .int (th)), (3, .int (nI C)), (4, .int (nI (C / 6))), (5, .int (nI (C % 6)))]) hx hb dX9_rests_157 hl (k := 9) rfl (inc_nI n) (by decide) rfl (fun ls hl => ?_)
                        refine lv_goto (tgt := 40) hx hb dX9_rests_160 (by decide) ?_
                        have e6 : b2i (rsL mi th gn C (n + 1)) = 1 := by simp [rsL, rsQ, b2i, c53, c53', c54, c55, c64, c64', c65]
                        have hl : lv_has ls 10 [(7, .int (nI (n + 1))), (6, .int (b2i (rsL mi th gn C (n + 1)))), (9, .int (0)), (8, .int (0)), (0, .ref (o 0)), (1, .int (mi)), (2, .int (th)), (3, .int (nI C)), (4, .int (nI (C / 6))), (5, .int (nI (C % 6)))] := by rw [e6]; exact hl
                        exact ih40 (n + 1) (by omega) (by omega) _ (lv_sub hl [4, 5, 6, 7, 8, 9, 1, 0] rfl)
                  · skip
                    have c65 := b2i_1 c65
                    refine lv_aload_n hx hb dX9_rests_103 rfl (lv_at hl 1 rfl) ?_
                    refine kget hC.1 hK (kP_app.mp hP).1 0 rfl rfl in_9 16 (by decide) (gw_in m_976 rfl) rfl dX9_rests_104 ?_
                    refine lv_iconst (v := 2) hx hb dX9_rests_107 rfl ?_
                    refine lv_bipush (v := 6) hx hb dX9_rests_108 rfl ?_
                    refine lv_iload hx hb dX9_rests_110 (lv_at hl 5 rfl) ?_
                    refine lv_imul hx hb dX9_rests_112 ?_
                    refine top_i (x := 6 * (nI (C / 6))) (y := nI (6 * (C / 6))) (show nI 6 * _ = _ from pk_mul 6 _) ?_
                    refine lv_iload hx hb dX9_rests_113 (lv_at hl 8 rfl) ?_
                    refine lv_iadd hx hb dX9_rests_115 ?_
                    refine top_i (x := (nI (6 * (C / 6))) + (nI n)) (y := nI (6 * (C / 6) + n)) (nI_add _ _) ?_
                    refine lv_imul hx hb dX9_rests_116 ?_
                    refine top_i (x := 2 * (nI (6 * (C / 6) + n))) (y := nI (2 * (6 * (C / 6) + n))) (show nI 2 * _ = _ from pk_mul 2 _) ?_
                    refine lv_iconst (v := 1) hx hb dX9_rests_117 rfl ?_
                    refine lv_iadd hx hb dX9_rests_118 ?_
                    refine top_i (x := (nI (2 * (6 * (C / 6) + n))) + 1) (y := nI (2 * (6 * (C / 6) + n) + 1)) (nI_1 _) ?_
                    refine kald (v := gn (2 * (6 * (C / 6) + n) + 1)) hC.1 hK (kP_app.mp (kP_app.mp hP).2).1 0 rfl (vp_in_nI (by omega) (by omega)) (by rw [cl_nI (by omega)]) dX9_rests_119 ?_
                    refine lv_aload_n hx hb dX9_rests_120 rfl (lv_at hl 1 rfl) ?_
                    refine kget hC.1 hK (kP_app.mp hP).1 0 rfl rfl in_9 16 (by decide) (gw_in m_976 rfl) rfl dX9_rests_121 ?_
                    refine lv_iconst (v := 2) hx hb dX9_rests_124 rfl ?_
                    refine lv_iload_n hx hb dX9_rests_125 rfl (lv_at hl 4 rfl) ?_
                    refine lv_imul hx hb dX9_rests_126 ?_
                    refine top_i (x := 2 * (nI C)) (y := nI (2 * C)) (show nI 2 * _ = _ from pk_mul 2 _) ?_
                    refine lv_iconst (v := 1) hx hb dX9_rests_127 rfl ?_
                    refine lv_iadd hx hb dX9_rests_128 ?_
                    refine top_i (x := (nI (2 * C)) + 1) (y := nI (2 * C + 1)) (nI_1 _) ?_
                    refine kald (v := gn (2 * C + 1)) hC.1 hK (kP_app.mp (kP_app.mp hP).2).1 0 rfl (vp_in_nI (by omega) (by omega)) (by rw [cl_nI (by omega)]) dX9_rests_129 ?_
                    refine lv_icmp_le (tgt := 137) hx hb dX9_rests_130 (by decide) (fun c68 => ?_) (fun c68 => ?_)
                    · skip
                      have c68' := Int32.not_lt.mpr c68
                      refine lv_iconst (v := 0) hx hb dX9_rests_137 rfl ?_
                      refine lv_istore (lv' := [(9, .int (0)), (8, .int (0)), (0, .ref (o 0)), (1, .int (mi)), (2, .int (th)), (3, .int (nI C)), (4, .int (nI (C / 6))), (5, .int (nI (C % 6))), (6, .int (b2i (rsL mi th gn C n))), (7, .int (nI n))]) hx hb dX9_rests_138 hl (by decide) rfl (fun ls hl => ?_)
                      refine lv_iload hx hb dX9_rests_140 (lv_at hl 1 rfl) ?_
                      refine lv_if_ne (tgt := 154) hx hb dX9_rests_142 (by decide) (fun c69 => ?_) (fun c69 => ?_)
                      · skip
                        exact absurd c69 (by decide)
                      · skip
                        refine lv_iload hx hb dX9_rests_145 (lv_at hl 0 rfl) ?_
                        refine lv_if_ne (tgt := 154) hx hb dX9_rests_147 (by decide) (fun c70 => ?_) (fun c70 => ?_)
                        · skip
                          exact absurd c70 (by decide)
                        · skip
                          refine lv_iconst (v := 1) hx hb dX9_rests_150 rfl ?_
                          refine lv_goto (tgt := 155) hx hb dX9_rests_151 (by decide) ?_
                          refine lv_istore (lv' := [(6, .int (1)), (9, .int (0)), (8, .int (0)), (0, .ref (o 0)), (1, .int (mi)), (2, .int (th)), (3, .int (nI C)), (4, .int (nI (C / 6))), (5, .int (nI (C % 6))), (7, .int (nI n))]) hx hb dX9_rests_155 hl (by decide) rfl (fun ls hl => ?_)
                          refine lv_iinc (v := nI (n + 1)) (lv' := [(7, .int (nI (n + 1))), (6, .int (1)), (9, .int (0)), (8, .int (0)), (0, .ref (o 0)), (1, .int (mi)), (2, .int (th)), (3, .int (nI C)), (4, .int (nI (C / 6))), (5, .int (nI (C % 6)))]) hx hb dX9_rests_157 hl (k := 9) rfl (inc_nI n) (by decide) rfl (fun ls hl => ?_)
                          refine lv_goto (tgt := 40) hx hb dX9_rests_160 (by decide) ?_
                          have e6 : b2i (rsL mi th gn C (n + 1)) = 1 := by simp [rsL, rsQ, b2i, c53, c53', c54, c55, c64, c64', c65, c68, c68']
                          have hl : lv_has ls 10 [(7, .int (nI (n + 1))), (6, .int (b2i (rsL mi th gn C (n + 1)))), (9, .int (0)), (8, .int (0)), (0, .ref (o 0)), (1, .int (mi)), (2, .int (th)), (3, .int (nI C)), (4, .int (nI (C / 6))), (5, .int (nI (C % 6)))] := by rw [e6]; exact hl
                          exact ih40 (n + 1) (by omega) (by omega) _ (lv_sub hl [4, 5, 6, 7, 8, 9, 1, 0] rfl)
                    · skip
                      have c68' := Int32.not_le.mp c68
                      refine lv_iconst (v := 1) hx hb dX9_rests_133 rfl ?_
                      refine lv_goto (tgt := 138) hx hb dX9_rests_134 (by decide) ?_
                      refine lv_istore (lv' := [(9, .int (1)), (8, .int (0)), (0, .ref (o 0)), (1, .int (mi)), (2, .int (th)), (3, .int (nI C)), (4, .int (nI (C / 6))), (5, .int (nI (C % 6))), (6, .int (b2i (rsL mi th gn C n))), (7, .int (nI n))]) hx hb dX9_rests_138 hl (by decide) rfl (fun ls hl => ?_)
                      refine lv_iload hx hb dX9_rests_140 (lv_at hl 1 rfl) ?_
                      refine lv_if_ne (tgt := 154) hx hb dX9_rests_142 (by decide) (fun c71 => ?_) (fun c71 => ?_)
                      · skip
                        exact absurd c71 (by decide)
                      · skip
                        refine lv_iload hx hb dX9_rests_145 (lv_at hl 0 rfl) ?_
                        refine lv_if_ne (tgt := 154) hx hb dX9_rests_147 (by decide) (fun c72 => ?_) (fun c72 => ?_)
                        · skip
                          refine lv_iconst (v := 0) hx hb dX9_rests_154 rfl ?_
                          refine lv_istore (lv' := [(6, .int (0)), (9, .int (1)), (8, .int (0)), (0, .ref (o 0)), (1, .int (mi)), (2, .int (th)), (3, .int (nI C)), (4, .int (nI (C / 6))), (5, .int (nI (C % 6))), (7, .int (nI n))]) hx hb dX9_rests_155 hl (by decide) rfl (fun ls hl => ?_)
                          refine lv_iinc (v := nI (n + 1)) (lv' := [(7, .int (nI (n + 1))), (6, .int (0)), (9, .int (1)), (8, .int (0)), (0, .ref (o 0)), (1, .int (mi)), (2, .int (th)), (3, .int (nI C)), (4, .int (nI (C / 6))), (5, .int (nI (C % 6)))]) hx hb dX9_rests_157 hl (k := 9) rfl (inc_nI n) (by decide) rfl (fun ls hl => ?_)
                          refine lv_goto (tgt := 40) hx hb dX9_rests_160 (by decide) ?_
                          have e6 : b2i (rsL mi th gn C (n + 1)) = 0 := by simp [rsL, rsQ, b2i, c53, c53', c54, c55, c64, c64', c65, c68, c68']
                          have hl : lv_has ls 10 [(7, .int (nI (n + 1))), (6, .int (b2i (rsL mi th gn C (n + 1)))), (9, .int (1)), (8, .int (0)), (0, .ref (o 0)), (1, .int (mi)), (2, .int (th)), (3, .int (nI C)), (4, .int (nI (C / 6))), (5, .int (nI (C % 6)))] := by rw [e6]; exact hl
                          exact ih40 (n + 1) (by omega) (by omega) _ (lv_sub hl [4, 5, 6, 7, 8, 9, 1, 0] rfl)
                        · skip
                          exact absurd c72 (by decide)
                · skip
                  have c64' := Int32.not_le.mp c64
                  refine lv_iconst (v := 1) hx hb dX9_rests_87 rfl ?_
                  refine lv_goto (tgt := 92) hx hb dX9_rests_88 (by decide) ?_
                  refine lv_istore (lv' := [(8, .int (1)), (0, .ref (o 0)), (1, .int (mi)), (2, .int (th)), (3, .int (nI C)), (4, .int (nI (C / 6))), (5, .int (nI (C % 6))), (6, .int (b2i (rsL mi th gn C n))), (7, .int (nI n))]) hx hb dX9_rests_92 hl (by decide) rfl (fun ls hl => ?_)
                  refine lv_iload_n hx hb dX9_rests_94 rfl (lv_at hl 3 rfl) ?_
                  refine lv_iload hx hb dX9_rests_95 (lv_at hl 8 rfl) ?_
                  refine ro_i (run_S (As := [.int (th), .int (nI n)]) (rest := []) hC.1 ckX9_has (kX9_has l th (nI n)) (gw_in m_1225 rfl) (fb_nil _) (fun _ _ _ => trivial) ⟨rfl, rfl, Nat.le_of_ble_eq_true rfl, Nat.le_of_ble_eq_true rfl⟩ rfl hl.1 rfl (Nat.le_of_ble_eq_true rfl) dX9_rests_97 ⟨Nat.le_of_ble_eq_true rfl, Nat.le_of_ble_eq_true rfl⟩) ?_
                  refine lv_if_eq (tgt := 137) hx hb dX9_rests_100 (by decide) (fun c73 => ?_) (fun c73 => ?_)
                  · skip
                    have c73 := b2i_0 c73
                    refine lv_iconst (v := 0) hx hb dX9_rests_137 rfl ?_
                    refine lv_istore (lv' := [(9, .int (0)), (8, .int (1)), (0, .ref (o 0)), (1, .int (mi)), (2, .int (th)), (3, .int (nI C)), (4, .int (nI (C / 6))), (5, .int (nI (C % 6))), (6, .int (b2i (rsL mi th gn C n))), (7, .int (nI n))]) hx hb dX9_rests_138 hl (by decide) rfl (fun ls hl => ?_)
                    refine lv_iload hx hb dX9_rests_140 (lv_at hl 1 rfl) ?_
                    refine lv_if_ne (tgt := 154) hx hb dX9_rests_142 (by decide) (fun c74 => ?_) (fun c74 => ?_)
                    · skip
                      refine lv_iconst (v := 0) hx hb dX9_rests_154 rfl ?_
                      refine lv_istore (lv' := [(6, .int (0)), (9, .int (0)), (8, .int (1)), (0, .ref (o 0)), (1, .int (mi)), (2, .int (th)), (3, .int (nI C)), (4, .int (nI (C / 6))), (5, .int (nI (C % 6))), (7, .int (nI n))]) hx hb dX9_rests_155 hl (by decide) rfl (fun ls hl => ?_)
                      refine lv_iinc (v := nI (n + 1)) (lv' := [(7, .int (nI (n + 1))), (6, .int (0)), (9, .int (0)), (8, .int (1)), (0, .ref (o 0)), (1, .int (mi)), (2, .int (th)), (3, .int (nI C)), (4, .int (nI (C / 6))), (5, .int (nI (C % 6)))]) hx hb dX9_rests_157 hl (k := 9) rfl (inc_nI n) (by decide) rfl (fun ls hl => ?_)
                      refine lv_goto (tgt := 40) hx hb dX9_rests_160 (by decide) ?_
                      have e6 : b2i (rsL mi th gn C (n + 1)) = 0 := by simp [rsL, rsQ, b2i, c53, c53', c54, c55, c64, c64', c73]
                      have hl : lv_has ls 10 [(7, .int (nI (n + 1))), (6, .int (b2i (rsL mi th gn C (n + 1)))), (9, .int (0)), (8, .int (1)), (0, .ref (o 0)), (1, .int (mi)), (2, .int (th)), (3, .int (nI C)), (4, .int (nI (C / 6))), (5, .int (nI (C % 6)))] := by rw [e6]; exact hl
                      exact ih40 (n + 1) (by omega) (by omega) _ (lv_sub hl [4, 5, 6, 7, 8, 9, 1, 0] rfl)
                    · skip
                      exact absurd c74 (by decide)
                  · skip
                    have c73 := b2i_1 c73
                    refine lv_aload_n hx hb dX9_rests_103 rfl (lv_at hl 1 rfl) ?_
                    refine kget hC.1 hK (kP_app.mp hP).1 0 rfl rfl in_9 16 (by decide) (gw_in m_976 rfl) rfl dX9_rests_104 ?_
                    refine lv_iconst (v := 2) hx hb dX9_rests_107 rfl ?_
                    refine lv_bipush (v := 6) hx hb dX9_rests_108 rfl ?_
                    refine lv_iload hx hb dX9_rests_110 (lv_at hl 5 rfl) ?_
                    refine lv_imul hx hb dX9_rests_112 ?_
                    refine top_i (x := 6 * (nI (C / 6))) (y := nI (6 * (C / 6))) (show nI 6 * _ = _ from pk_mul 6 _) ?_
                    refine lv_iload hx hb dX9_rests_113 (lv_at hl 8 rfl) ?_
                    refine lv_iadd hx hb dX9_rests_115 ?_
                    refine top_i (x := (nI (6 * (C / 6))) + (nI n)) (y := nI (6 * (C / 6) + n)) (nI_add _ _) ?_
                    refine lv_imul hx hb dX9_rests_116 ?_
                    refine top_i (x := 2 * (nI (6 * (C / 6) + n))) (y := nI (2 * (6 * (C / 6) + n))) (show nI 2 * _ = _ from pk_mul 2 _) ?_
                    refine lv_iconst (v := 1) hx hb dX9_rests_117 rfl ?_
                    refine lv_iadd hx hb dX9_rests_118 ?_
                    refine top_i (x := (nI (2 * (6 * (C / 6) + n))) + 1) (y := nI (2 * (6 * (C / 6) + n) + 1)) (nI_1 _) ?_
                    refine kald (v := gn (2 * (6 * (C / 6) + n) + 1)) hC.1 hK (kP_app.mp (kP_app.mp hP).2).1 0 rfl (vp_in_nI (by omega) (by omega)) (by rw [cl_nI (by omega)]) dX9_rests_119 ?_
                    refine lv_aload_n hx hb dX9_rests_120 rfl (lv_at hl 1 rfl) ?_
                    refine kget hC.1 hK (kP_app.mp hP).1 0 rfl rfl in_9 16 (by decide) (gw_in m_976 rfl) rfl dX9_rests_121 ?_
                    refine lv_iconst (v := 2) hx hb dX9_rests_124 rfl ?_
                    refine lv_iload_n hx hb dX9_rests_125 rfl (lv_at hl 4 rfl) ?_
                    refine lv_imul hx hb dX9_rests_126 ?_
                    refine top_i (x := 2 * (nI C)) (y := nI (2 * C)) (show nI 2 * _ = _ from pk_mul 2 _) ?_
                    refine lv_iconst (v := 1) hx hb dX9_rests_127 rfl ?_
                    refine lv_iadd hx hb dX9_rests_128 ?_
                    refine top_i (x := (nI (2 * C)) + 1) (y := nI (2 * C + 1)) (nI_1 _) ?_
                    refine kald (v := gn (2 * C + 1)) hC.1 hK (kP_app.mp (kP_app.mp hP).2).1 0 rfl (vp_in_nI (by omega) (by omega)) (by rw [cl_nI (by omega)]) dX9_rests_129 ?_
                    refine lv_icmp_le (tgt := 137) hx hb dX9_rests_130 (by decide) (fun c75 => ?_) (fun c75 => ?_)
                    · skip
                      have c75' := Int32.not_lt.mpr c75
                      refine lv_iconst (v := 0) hx hb dX9_rests_137 rfl ?_
                      refine lv_istore (lv' := [(9, .int (0)), (8, .int (1)), (0, .ref (o 0)), (1, .int (mi)), (2, .int (th)), (3, .int (nI C)), (4, .int (nI (C / 6))), (5, .int (nI (C % 6))), (6, .int (b2i (rsL mi th gn C n))), (7, .int (nI n))]) hx hb dX9_rests_138 hl (by decide) rfl (fun ls hl => ?_)
                      refine lv_iload hx hb dX9_rests_140 (lv_at hl 1 rfl) ?_
                      refine lv_if_ne (tgt := 154) hx hb dX9_rests_142 (by decide) (fun c76 => ?_) (fun c76 => ?_)
                      · skip
                        refine lv_iconst (v := 0) hx hb dX9_rests_154 rfl ?_
                        refine lv_istore (lv' := [(6, .int (0)), (9, .int (0)), (8, .int (1)), (0, .ref (o 0)), (1, .int (mi)), (2, .int (th)), (3, .int (nI C)), (4, .int (nI (C / 6))), (5, .int (nI (C % 6))), (7, .int (nI n))]) hx hb dX9_rests_155 hl (by decide) rfl (fun ls hl => ?_)
                        refine lv_iinc (v := nI (n + 1)) (lv' := [(7, .int (nI (n + 1))), (6, .int (0)), (9, .int (0)), (8, .int (1)), (0, .ref (o 0)), (1, .int (mi)), (2, .int (th)), (3, .int (nI C)), (4, .int (nI (C / 6))), (5, .int (nI (C % 6)))]) hx hb dX9_rests_157 hl (k := 9) rfl (inc_nI n) (by decide) rfl (fun ls hl => ?_)
                        refine lv_goto (tgt := 40) hx hb dX9_rests_160 (by decide) ?_
                        have e6 : b2i (rsL mi th gn C (n + 1)) = 0 := by simp [rsL, rsQ, b2i, c53, c53', c54, c55, c64, c64', c73, c75, c75']
                        have hl : lv_has ls 10 [(7, .int (nI (n + 1))), (6, .int (b2i (rsL mi th gn C (n + 1)))), (9, .int (0)), (8, .int (1)), (0, .ref (o 0)), (1, .int (mi)), (2, .int (th)), (3, .int (nI C)), (4, .int (nI (C / 6))), (5, .int (nI (C % 6)))] := by rw [e6]; exact hl
                        exact ih40 (n + 1) (by omega) (by omega) _ (lv_sub hl [4, 5, 6, 7, 8, 9, 1, 0] rfl)
                      · skip
                        exact absurd c76 (by decide)
                    · skip
                      have c75' := Int32.not_le.mp c75
                      refine lv_iconst (v := 1) hx hb dX9_rests_133 rfl ?_
                      refine lv_goto (tgt := 138) hx hb dX9_rests_134 (by decide) ?_
                      refine lv_istore (lv' := [(9, .int (1)), (8, .int (1)), (0, .ref (o 0)), (1, .int (mi)), (2, .int (th)), (3, .int (nI C)), (4, .int (nI (C / 6))), (5, .int (nI (C % 6))), (6, .int (b2i (rsL mi th gn C n))), (7, .int (nI n))]) hx hb dX9_rests_138 hl (by decide) rfl (fun ls hl => ?_)
                      refine lv_iload hx hb dX9_rests_140 (lv_at hl 1 rfl) ?_
                      refine lv_if_ne (tgt := 154) hx hb dX9_rests_142 (by decide) (fun c77 => ?_) (fun c77 => ?_)
                      · skip
                        refine lv_iconst (v := 0) hx hb dX9_rests_154 rfl ?_
                        refine lv_istore (lv' := [(6, .int (0)), (9, .int (1)), (8, .int (1)), (0, .ref (o 0)), (1, .int (mi)), (2, .int (th)), (3, .int (nI C)), (4, .int (nI (C / 6))), (5, .int (nI (C % 6))), (7, .int (nI n))]) hx hb dX9_rests_155 hl (by decide) rfl (fun ls hl => ?_)
                        refine lv_iinc (v := nI (n + 1)) (lv' := [(7, .int (nI (n + 1))), (6, .int (0)), (9, .int (1)), (8, .int (1)), (0, .ref (o 0)), (1, .int (mi)), (2, .int (th)), (3, .int (nI C)), (4, .int (nI (C / 6))), (5, .int (nI (C % 6)))]) hx hb dX9_rests_157 hl (k := 9) rfl (inc_nI n) (by decide) rfl (fun ls hl => ?_)
                        refine lv_goto (tgt := 40) hx hb dX9_rests_160 (by decide) ?_
                        have e6 : b2i (rsL mi th gn C (n + 1)) = 0 := by simp [rsL, rsQ, b2i, c53, c53', c54, c55, c64, c64', c73, c75, c75']
                        have hl : lv_has ls 10 [(7, .int (nI (n + 1))), (6, .int (b2i (rsL mi th gn C (n + 1)))), (9, .int (1)), (8, .int (1)), (0, .ref (o 0)), (1, .int (mi)), (2, .int (th)), (3, .int (nI C)), (4, .int (nI (C / 6))), (5, .int (nI (C % 6)))] := by rw [e6]; exact hl
                        exact ih40 (n + 1) (by omega) (by omega) _ (lv_sub hl [4, 5, 6, 7, 8, 9, 1, 0] rfl)
                      · skip
                        exact absurd c77 (by decide)
      have e6 : b2i (rsL mi th gn C 0) = 1 := by simp [rsL, b2i, c1, c27]
      have hl : lv_has ls 10 [(7, .int (0)), (6, .int (b2i (rsL mi th gn C 0))), (5, .int (nI (C % 6))), (4, .int (nI (C / 6))), (0, .ref (o 0)), (1, .int (mi)), (2, .int (th)), (3, .int (nI C))] := by rw [e6]; exact hl
      exact cut40 _ 0 (Nat.lt_succ_self _) (by omega) _ (lv_sub hl [4, 5, 6, 7, 3, 2, 1, 0] rfl)
set_option maxHeartbeats 4000000 in
set_option maxRecDepth 100000 in
theorem kX9_pair (l : Launch) (g : gG) (o : Nat → Nat) (ab be : Int64) (lm ra ta : Nat) (ti fa : Int32) (um ua : Nat) (hh : Int64) (rf : Nat → Int32) (r tr gn : Nat → Int32) (p q k : Int32) (hw : Wf r) : Met l yX9_pair (.code yX9_pair cX9_pair 8 (some .int) :: gw) (rmN 5) (va_Pc [.ref (o 0), .int (p), .int (q), .int (k)] (rwPre g (mO g o ab be lm ra ta ti fa um ua hh ++ (aW g (o 1) 3 rf ++ (aW g (o 2) 45 r ++ (aW g (o 3) 45 tr ++ (aW g (o 8) 72 gn ++ []))))))) (rxQi g (mO g o ab be lm ra ta ti fa um ua hh ++ (aW g (o 1) 3 rf ++ (aW g (o 2) 45 r ++ (aW g (o 3) 45 tr ++ (aW g (o 8) 72 gn ++ []))))) (fun u9 : (Nat → Int32) × (Nat → Int32) => mO g o ab be lm ra ta ti fa um ua hh ++ (aW g (o 1) 3 (if (yPl r p && yPl r q && decide (¬ p = q) && decide (-1 ≤ k)) = true then rf else upd rf 0 (rf 0 + 1)) ++ (aW g (o 2) 45 r ++ (aW g (o 3) 45 u9.1 ++ (aW g (o 8) 72 u9.2 ++ []))))) (if (yPl r p && yPl r q && decide (¬ p = q) && decide (-1 ≤ k)) = true then prX (fun C => rsL (setB (fun j => yWof r (nI j) p) (cl (r 2))) (setB (fun j => yWof r (nI j) q) (cl (r 2))) (gnF r (setB (fun j => yWof r (nI j) p) (cl (r 2))) (setB (fun j => yWof r (nI j) q) (cl (r 2))) gn 36) C 6) k else -10)) 0 0 (dm (mO g o ab be lm ra ta ti fa um ua hh ++ (aW g (o 1) 3 rf ++ (aW g (o 2) 45 r ++ (aW g (o 3) 45 tr ++ (aW g (o 8) 72 gn ++ [])))))) := by
  refine met_start (by decide) (Nat.le_of_ble_eq_true rfl) ?_
  intro pp ee ss mm bl mt cd hC hpre ls hl
  obtain ⟨⟨hx, hb, hml, hown, hts⟩, hr, hlk, hnm⟩ := id hC
  have hl : lv_has ls 8 [(0, .ref (o 0)), (1, .int (p)), (2, .int (q)), (3, .int (k))] := hl
  obtain ⟨hP, hK, hD⟩ := hpre
  have hS : va_S (dm (mO g o ab be lm ra ta ti fa um ua hh ++ (aW g (o 1) 3 rf ++ (aW g (o 2) 45 r ++ (aW g (o 3) 45 tr ++ (aW g (o 8) 72 gn ++ [])))))) ss.heap ss.heap [] := va_S.rf
  have hD := vD_self hD
  refine lv_iload_n hx hb dX9_pair_0 rfl (lv_at hl 1 rfl) ?_
  refine lv_iconst (v := 0) hx hb dX9_pair_1 rfl ?_
  refine lv_aload_n hx hb dX9_pair_2 rfl (lv_at hl 0 rfl) ?_
  refine kget hC.1 hK (kP_app.mp hP).1 0 rfl rfl in_9 3 (by decide) (gw_in m_963 rfl) rfl dX9_pair_3 ?_
  refine lv_iconst (v := 1) hx hb dX9_pair_6 rfl ?_
  refine kald (v := r 1) hC.1 hK (kP_app.mp (kP_app.mp (kP_app.mp hP).2).2).1 0 rfl (show vp_in (nI 1) 45 from vp_in_nI (by omega) (by omega)) (congrArg r (show cl 1 = 1 from by decide)) dX9_pair_7 ?_
  refine lv_iconst (v := 1) hx hb dX9_pair_8 rfl ?_
  refine lv_isub hx hb dX9_pair_9 ?_
  refine ro_i (run_S (As := [.int (p), .int (0), .int ((r 1) - 1)]) (rest := []) hC.1 ckX9_in (kX9_in l p 0 ((r 1) - 1)) (gw_in m_1038 rfl) (fb_nil _) (fun _ _ _ => trivial) ⟨rfl, rfl, Nat.le_of_ble_eq_true rfl, Nat.le_of_ble_eq_true rfl⟩ rfl hl.1 rfl (Nat.le_of_ble_eq_true rfl) dX9_pair_10 ⟨Nat.le_of_ble_eq_true rfl, Nat.le_of_ble_eq_true rfl⟩) ?_
  refine top_i (x := b2i (wth p 0 ((r 1) - 1))) (y := b2i (yPl r p)) (by rw [pl_w hw]) ?_
  refine lv_if_eq (tgt := 42) hx hb dX9_pair_13 (by decide) (fun c1 => ?_) (fun c1 => ?_)
  · skip
    have c1 := b2i_0 c1
    refine lv_aload_n hx hb dX9_pair_42 rfl (lv_at hl 0 rfl) ?_
    refine lv_bipush (v := -10) hx hb dX9_pair_43 rfl ?_
    refine rw_i (run_V (As := [.int (-10)]) (rest := []) hC.1 ckX9_bad (kX9_bad l g o ab be lm ra ta ti fa um ua hh rf (-10)) (gw_in m_1041 rfl) (fb_rw _ _ _) (va_recv hK.1 (kP_app.mp hP).1 (q0 := 0) rfl rfl) (fun U hU hW => ⟨by rw [hU]; exact (kP_app.mpr ⟨(kP_app.mp hP).1, (kP_app.mpr ⟨(kP_app.mp (kP_app.mp hP).2).1, kP_nil⟩)⟩), kK_warm hW hK, vD_sub (sbA _ (sbA _ (sb0 _))) hD⟩) ⟨rfl, rfl, Nat.le_of_ble_eq_true rfl, Nat.le_of_ble_eq_true rfl⟩ rfl hl.1 rfl (Nat.le_of_ble_eq_true rfl) dX9_pair_45 ⟨Nat.le_of_ble_eq_true rfl, Nat.le_of_ble_eq_true rfl⟩) (adr_app rfl (adr_app aW_adr rfl)) (asc2 _ _ _) (ww' := mO g o ab be lm ra ta ti fa um ua hh ++ (aW g (o 1) 3 (upd rf 0 (rf 0 + 1)) ++ (aW g (o 2) 45 r ++ (aW g (o 3) 45 tr ++ (aW g (o 8) 72 gn ++ []))))) (asc2 _ _ _) hP hD hS (fun H locs hP hD hS => ?_)
    exact ret_rxi (S := (Nat → Int32) × (Nat → Int32)) (tr, gn) hx hb hr hlk (by rw [if_neg (by simp [c1])]) (kP_eq (by rw [if_neg (by simp [c1])]) hP) hS dX9_pair_48
  · skip
    have c1 := b2i_1 c1
    refine lv_iload_n hx hb dX9_pair_16 rfl (lv_at hl 2 rfl) ?_
    refine lv_iconst (v := 0) hx hb dX9_pair_17 rfl ?_
    refine lv_aload_n hx hb dX9_pair_18 rfl (lv_at hl 0 rfl) ?_
    refine kget hC.1 hK (kP_app.mp hP).1 0 rfl rfl in_9 3 (by decide) (gw_in m_963 rfl) rfl dX9_pair_19 ?_
    refine lv_iconst (v := 1) hx hb dX9_pair_22 rfl ?_
    refine kald (v := r 1) hC.1 hK (kP_app.mp (kP_app.mp (kP_app.mp hP).2).2).1 0 rfl (show vp_in (nI 1) 45 from vp_in_nI (by omega) (by omega)) (congrArg r (show cl 1 = 1 from by decide)) dX9_pair_23 ?_
    refine lv_iconst (v := 1) hx hb dX9_pair_24 rfl ?_
    refine lv_isub hx hb dX9_pair_25 ?_
    refine ro_i (run_S (As := [.int (q), .int (0), .int ((r 1) - 1)]) (rest := []) hC.1 ckX9_in (kX9_in l q 0 ((r 1) - 1)) (gw_in m_1038 rfl) (fb_nil _) (fun _ _ _ => trivial) ⟨rfl, rfl, Nat.le_of_ble_eq_true rfl, Nat.le_of_ble_eq_true rfl⟩ rfl hl.1 rfl (Nat.le_of_ble_eq_true rfl) dX9_pair_26 ⟨Nat.le_of_ble_eq_true rfl, Nat.le_of_ble_eq_true rfl⟩) ?_
    refine top_i (x := b2i (wth q 0 ((r 1) - 1))) (y := b2i (yPl r q)) (by rw [pl_w hw]) ?_
    refine lv_if_eq (tgt := 42) hx hb dX9_pair_29 (by decide) (fun c2 => ?_) (fun c2 => ?_)
    · skip
      have c2 := b2i_0 c2
      refine lv_aload_n hx hb dX9_pair_42 rfl (lv_at hl 0 rfl) ?_
      refine lv_bipush (v := -10) hx hb dX9_pair_43 rfl ?_
      refine rw_i (run_V (As := [.int (-10)]) (rest := []) hC.1 ckX9_bad (kX9_bad l g o ab be lm ra ta ti fa um ua hh rf (-10)) (gw_in m_1041 rfl) (fb_rw _ _ _) (va_recv hK.1 (kP_app.mp hP).1 (q0 := 0) rfl rfl) (fun U hU hW => ⟨by rw [hU]; exact (kP_app.mpr ⟨(kP_app.mp hP).1, (kP_app.mpr ⟨(kP_app.mp (kP_app.mp hP).2).1, kP_nil⟩)⟩), kK_warm hW hK, vD_sub (sbA _ (sbA _ (sb0 _))) hD⟩) ⟨rfl, rfl, Nat.le_of_ble_eq_true rfl, Nat.le_of_ble_eq_true rfl⟩ rfl hl.1 rfl (Nat.le_of_ble_eq_true rfl) dX9_pair_45 ⟨Nat.le_of_ble_eq_true rfl, Nat.le_of_ble_eq_true rfl⟩) (adr_app rfl (adr_app aW_adr rfl)) (asc2 _ _ _) (ww' := mO g o ab be lm ra ta ti fa um ua hh ++ (aW g (o 1) 3 (upd rf 0 (rf 0 + 1)) ++ (aW g (o 2) 45 r ++ (aW g (o 3) 45 tr ++ (aW g (o 8) 72 gn ++ []))))) (asc2 _ _ _) hP hD hS (fun H locs hP hD hS => ?_)
      exact ret_rxi (S := (Nat → Int32) × (Nat → Int32)) (tr, gn) hx hb hr hlk (by rw [if_neg (by simp [c1, c2])]) (kP_eq (by rw [if_neg (by simp [c1, c2])]) hP) hS dX9_pair_48
    · skip
      have c2 := b2i_1 c2
      refine lv_iload_n hx hb dX9_pair_32 rfl (lv_at hl 1 rfl) ?_
      refine lv_iload_n hx hb dX9_pair_33 rfl (lv_at hl 2 rfl) ?_
      refine lv_icmp_eq (tgt := 42) hx hb dX9_pair_34 (by decide) (fun c3 => ?_) (fun c3 => ?_)
      · skip
        refine lv_aload_n hx hb dX9_pair_42 rfl (lv_at hl 0 rfl) ?_
        refine lv_bipush (v := -10) hx hb dX9_pair_43 rfl ?_
        refine rw_i (run_V (As := [.int (-10)]) (rest := []) hC.1 ckX9_bad (kX9_bad l g o ab be lm ra ta ti fa um ua hh rf (-10)) (gw_in m_1041 rfl) (fb_rw _ _ _) (va_recv hK.1 (kP_app.mp hP).1 (q0 := 0) rfl rfl) (fun U hU hW => ⟨by rw [hU]; exact (kP_app.mpr ⟨(kP_app.mp hP).1, (kP_app.mpr ⟨(kP_app.mp (kP_app.mp hP).2).1, kP_nil⟩)⟩), kK_warm hW hK, vD_sub (sbA _ (sbA _ (sb0 _))) hD⟩) ⟨rfl, rfl, Nat.le_of_ble_eq_true rfl, Nat.le_of_ble_eq_true rfl⟩ rfl hl.1 rfl (Nat.le_of_ble_eq_true rfl) dX9_pair_45 ⟨Nat.le_of_ble_eq_true rfl, Nat.le_of_ble_eq_true rfl⟩) (adr_app rfl (adr_app aW_adr rfl)) (asc2 _ _ _) (ww' := mO g o ab be lm ra ta ti fa um ua hh ++ (aW g (o 1) 3 (upd rf 0 (rf 0 + 1)) ++ (aW g (o 2) 45 r ++ (aW g (o 3) 45 tr ++ (aW g (o 8) 72 gn ++ []))))) (asc2 _ _ _) hP hD hS (fun H locs hP hD hS => ?_)
        exact ret_rxi (S := (Nat → Int32) × (Nat → Int32)) (tr, gn) hx hb hr hlk (by rw [if_neg (by simp [c1, c2, c3])]) (kP_eq (by rw [if_neg (by simp [c1, c2, c3])]) hP) hS dX9_pair_48
      · skip
        refine lv_iload_n hx hb dX9_pair_37 rfl (lv_at hl 3 rfl) ?_
        refine lv_iconst (v := -1) hx hb dX9_pair_38 rfl ?_
        refine lv_icmp_ge (tgt := 49) hx hb dX9_pair_39 (by decide) (fun c4 => ?_) (fun c4 => ?_)
        · skip
          have c4' := Int32.not_lt.mpr c4
          refine lv_aload_n hx hb dX9_pair_49 rfl (lv_at hl 0 rfl) ?_
          refine lv_iload_n hx hb dX9_pair_50 rfl (lv_at hl 1 rfl) ?_
          refine ro_i (run_V (As := [.int (p)]) (rest := []) hC.1 ckX9_nutsOf (kX9_nutsOf l g o ab be lm ra ta ti fa um ua hh r p hw) (gw_in m_1217 rfl) (fb_ro _ _ _) (va_recv hK.1 (kP_app.mp hP).1 (q0 := 0) rfl rfl) (fun U hU hW => ⟨by rw [hU]; exact (kP_app.mpr ⟨(kP_app.mp hP).1, (kP_app.mpr ⟨(kP_app.mp (kP_app.mp (kP_app.mp hP).2).2).1, (kP_mem.mpr (fun _ h => absurd h List.not_mem_nil))⟩)⟩), kK_warm hW hK⟩) ⟨rfl, rfl, Nat.le_of_ble_eq_true rfl, Nat.le_of_ble_eq_true rfl⟩ rfl hl.1 rfl (Nat.le_of_ble_eq_true rfl) dX9_pair_51 ⟨Nat.le_of_ble_eq_true rfl, Nat.le_of_ble_eq_true rfl⟩) ?_
          refine lv_istore (lv' := [(4, .int (setB (fun j => yWof r (nI j) p) (cl (r 2)))), (0, .ref (o 0)), (1, .int (p)), (2, .int (q)), (3, .int (k))]) hx hb dX9_pair_54 hl (by decide) rfl (fun ls hl => ?_)
          refine lv_aload_n hx hb dX9_pair_56 rfl (lv_at hl 1 rfl) ?_
          refine lv_iload_n hx hb dX9_pair_57 rfl (lv_at hl 3 rfl) ?_
          refine ro_i (run_V (As := [.int (q)]) (rest := []) hC.1 ckX9_nutsOf (kX9_nutsOf l g o ab be lm ra ta ti fa um ua hh r q hw) (gw_in m_1217 rfl) (fb_ro _ _ _) (va_recv hK.1 (kP_app.mp hP).1 (q0 := 0) rfl rfl) (fun U hU hW => ⟨by rw [hU]; exact (kP_app.mpr ⟨(kP_app.mp hP).1, (kP_app.mpr ⟨(kP_app.mp (kP_app.mp (kP_app.mp hP).2).2).1, (kP_mem.mpr (fun _ h => absurd h List.not_mem_nil))⟩)⟩), kK_warm hW hK⟩) ⟨rfl, rfl, Nat.le_of_ble_eq_true rfl, Nat.le_of_ble_eq_true rfl⟩ rfl hl.1 rfl (Nat.le_of_ble_eq_true rfl) dX9_pair_58 ⟨Nat.le_of_ble_eq_true rfl, Nat.le_of_ble_eq_true rfl⟩) ?_
          refine lv_istore (lv' := [(5, .int (setB (fun j => yWof r (nI j) q) (cl (r 2)))), (4, .int (setB (fun j => yWof r (nI j) p) (cl (r 2)))), (0, .ref (o 0)), (1, .int (p)), (2, .int (q)), (3, .int (k))]) hx hb dX9_pair_61 hl (by decide) rfl (fun ls hl => ?_)
          refine lv_aload_n hx hb dX9_pair_63 rfl (lv_at hl 2 rfl) ?_
          refine lv_iload hx hb dX9_pair_64 (lv_at hl 1 rfl) ?_
          refine lv_iload hx hb dX9_pair_66 (lv_at hl 0 rfl) ?_
          have hP : kP g (mO g o ab be lm ra ta ti fa um ua hh ++ (aW g (o 2) 45 r ++ (aW g (o 3) 45 tr ++ (aW g (o 8) 72 gn ++ (aW g (o 1) 3 rf ++ []))))) _ := kP_perm (((pmA _ (pm_swap _ _ _)).trans (pmA _ (pmA _ (pm_swap _ _ _)))).trans (pmA _ (pmA _ (pmA _ (pm_swap _ _ _))))) hP
          have hD : va_D _ (mO g o ab be lm ra ta ti fa um ua hh ++ (aW g (o 2) 45 r ++ (aW g (o 3) 45 tr ++ (aW g (o 8) 72 gn ++ (aW g (o 1) 3 rf ++ []))))) := vD_perm (((pmA _ (pm_swap _ _ _)).trans (pmA _ (pmA _ (pm_swap _ _ _)))).trans (pmA _ (pmA _ (pmA _ (pm_swap _ _ _))))) hD
          refine rx_v (run_V (rm := rmN 4) (As := [.int (setB (fun j => yWof r (nI j) p) (cl (r 2))), .int (setB (fun j => yWof r (nI j) q) (cl (r 2)))]) (rest := []) hC.1 ckX9_layGains (kX9_layGains l g o ab be lm ra ta ti fa um ua hh r tr gn (setB (fun j => yWof r (nI j) p) (cl (r 2))) (setB (fun j => yWof r (nI j) q) (cl (r 2))) hw) (gw_in m_1339 rfl) (fb_rw _ _ _) (va_recv hK.1 (kP_app.mp hP).1 (q0 := 0) rfl rfl) (fun U hU hW => ⟨by rw [hU]; exact (kP_app.mpr ⟨(kP_app.mp hP).1, (kP_app.mpr ⟨(kP_app.mp (kP_app.mp hP).2).1, (kP_app.mpr ⟨(kP_app.mp (kP_app.mp (kP_app.mp hP).2).2).1, (kP_app.mpr ⟨(kP_app.mp (kP_app.mp (kP_app.mp (kP_app.mp hP).2).2).2).1, kP_nil⟩)⟩)⟩)⟩), kK_warm hW hK, vD_sub (sbA _ (sbA _ (sbA _ (sbA _ (sb0 _))))) hD⟩) ⟨rfl, rfl, Nat.le_of_ble_eq_true rfl, Nat.le_of_ble_eq_true rfl⟩ rfl hl.1 rfl (Nat.le_of_ble_eq_true rfl) dX9_pair_68 ⟨Nat.le_of_ble_eq_true rfl, Nat.le_of_ble_eq_true rfl⟩) (fun u => (adr_app rfl (adr_app rfl (adr_app aW_adr (adr_app aW_adr rfl))))) (asc4 _ _ _ _ _) (ww' := fun u9 : (Nat → Int32) => mO g o ab be lm ra ta ti fa um ua hh ++ (aW g (o 2) 45 r ++ (aW g (o 3) 45 u9 ++ (aW g (o 8) 72 (gnF r (setB (fun j => yWof r (nI j) p) (cl (r 2))) (setB (fun j => yWof r (nI j) q) (cl (r 2))) gn 36) ++ (aW g (o 1) 3 rf ++ []))))) (fun u => asc4 _ _ _ _ _) hP hD hS (fun u H locs hP hD hS => ?_)
          obtain ⟨x5, rfl⟩ : ∃ z, z = u := ⟨_, rfl⟩
          have hP : kP g (mO g o ab be lm ra ta ti fa um ua hh ++ (aW g (o 2) 45 r ++ (aW g (o 3) 45 x5 ++ (aW g (o 8) 72 (gnF r (setB (fun j => yWof r (nI j) p) (cl (r 2))) (setB (fun j => yWof r (nI j) q) (cl (r 2))) gn 36) ++ (aW g (o 1) 3 rf ++ []))))) H := hP
          have hD : va_D _ (mO g o ab be lm ra ta ti fa um ua hh ++ (aW g (o 2) 45 r ++ (aW g (o 3) 45 x5 ++ (aW g (o 8) 72 (gnF r (setB (fun j => yWof r (nI j) p) (cl (r 2))) (setB (fun j => yWof r (nI j) q) (cl (r 2))) gn 36) ++ (aW g (o 1) 3 rf ++ []))))) := hD
          refine lv_iconst (v := 0) hx hb dX9_pair_71 rfl ?_
          refine lv_istore (lv' := [(6, .int (0)), (5, .int (setB (fun j => yWof r (nI j) q) (cl (r 2)))), (4, .int (setB (fun j => yWof r (nI j) p) (cl (r 2)))), (0, .ref (o 0)), (1, .int (p)), (2, .int (q)), (3, .int (k))]) hx hb dX9_pair_72 hl (by decide) rfl (fun ls hl => ?_)
          refine lv_iconst (v := 0) hx hb dX9_pair_74 rfl ?_
          refine lv_istore (lv' := [(7, .int (0)), (6, .int (0)), (5, .int (setB (fun j => yWof r (nI j) q) (cl (r 2)))), (4, .int (setB (fun j => yWof r (nI j) p) (cl (r 2)))), (0, .ref (o 0)), (1, .int (p)), (2, .int (q)), (3, .int (k))]) hx hb dX9_pair_75 hl (by decide) rfl (fun ls hl => ?_)
          have cut77 : ∀ kk : Nat, ∀ (n : Nat), 37 - n < kk → (hn : n ≤ 36) → (hno : ∀ z, z < n → (rsL (setB (fun j => yWof r (nI j) p) (cl (r 2))) (setB (fun j => yWof r (nI j) q) (cl (r 2))) (gnF r (setB (fun j => yWof r (nI j) p) (cl (r 2))) (setB (fun j => yWof r (nI j) q) (cl (r 2))) gn 36) z 6 && decide (nI (prC (fun C => rsL (setB (fun j => yWof r (nI j) p) (cl (r 2))) (setB (fun j => yWof r (nI j) q) (cl (r 2))) (gnF r (setB (fun j => yWof r (nI j) p) (cl (r 2))) (setB (fun j => yWof r (nI j) q) (cl (r 2))) gn 36) C 6) z) = k)) = false) → ∀ (H : Heap) (locs : List Loc), kP g (mO g o ab be lm ra ta ti fa um ua hh ++ (aW g (o 2) 45 r ++ (aW g (o 3) 45 x5 ++ (aW g (o 8) 72 (gnF r (setB (fun j => yWof r (nI j) p) (cl (r 2))) (setB (fun j => yWof r (nI j) q) (cl (r 2))) gn 36) ++ (aW g (o 1) 3 rf ++ []))))) H → va_D (dm (mO g o ab be lm ra ta ti fa um ua hh ++ (aW g (o 1) 3 rf ++ (aW g (o 2) 45 r ++ (aW g (o 3) 45 tr ++ (aW g (o 8) 72 gn ++ [])))))) (mO g o ab be lm ra ta ti fa um ua hh ++ (aW g (o 2) 45 r ++ (aW g (o 3) 45 x5 ++ (aW g (o 8) 72 (gnF r (setB (fun j => yWof r (nI j) p) (cl (r 2))) (setB (fun j => yWof r (nI j) q) (cl (r 2))) gn 36) ++ (aW g (o 1) 3 rf ++ []))))) → va_S (dm (mO g o ab be lm ra ta ti fa um ua hh ++ (aW g (o 1) 3 rf ++ (aW g (o 2) 45 r ++ (aW g (o 3) 45 tr ++ (aW g (o 8) 72 gn ++ [])))))) ss.heap H locs → ∀ (ls : Array Slot), lv_has ls 8 [(0, .ref (o 0)), (1, .int (p)), (2, .int (q)), (3, .int (k)), (4, .int (setB (fun j => yWof r (nI j) p) (cl (r 2)))), (5, .int (setB (fun j => yWof r (nI j) q) (cl (r 2)))), (6, .int (nI (prC (fun C => rsL (setB (fun j => yWof r (nI j) p) (cl (r 2))) (setB (fun j => yWof r (nI j) q) (cl (r 2))) (gnF r (setB (fun j => yWof r (nI j) p) (cl (r 2))) (setB (fun j => yWof r (nI j) q) (cl (r 2))) gn 36) C 6) n))), (7, .int (nI n))] → W pp l ee (rmN 5) ss mm ([.ref (o 0), .int (p), .int (q), .int (k)] : List Value).toArray bl mt cd H locs 0 0 (MQ bl (rxQi g (mO g o ab be lm ra ta ti fa um ua hh ++ (aW g (o 1) 3 rf ++ (aW g (o 2) 45 r ++ (aW g (o 3) 45 tr ++ (aW g (o 8) 72 gn ++ []))))) (fun u9 : (Nat → Int32) × (Nat → Int32) => mO g o ab be lm ra ta ti fa um ua hh ++ (aW g (o 1) 3 (if (yPl r p && yPl r q && decide (¬ p = q) && decide (-1 ≤ k)) = true then rf else upd rf 0 (rf 0 + 1)) ++ (aW g (o 2) 45 r ++ (aW g (o 3) 45 u9.1 ++ (aW g (o 8) 72 u9.2 ++ []))))) (if (yPl r p && yPl r q && decide (¬ p = q) && decide (-1 ≤ k)) = true then prX (fun C => rsL (setB (fun j => yWof r (nI j) p) (cl (r 2))) (setB (fun j => yWof r (nI j) q) (cl (r 2))) (gnF r (setB (fun j => yWof r (nI j) p) (cl (r 2))) (setB (fun j => yWof r (nI j) q) (cl (r 2))) gn 36) C 6) k else -10)) ([.ref (o 0), .int (p), .int (q), .int (k)] : List Value).toArray ss 0 0 (dm (mO g o ab be lm ra ta ti fa um ua hh ++ (aW g (o 1) 3 rf ++ (aW g (o 2) 45 r ++ (aW g (o 3) 45 tr ++ (aW g (o 8) 72 gn ++ []))))))) (F0 mm 77 ls []) := by
            intro kk
            induction kk with
            | zero => intro n hmu; exact absurd hmu (Nat.not_lt_zero _)
            | succ kk ih77 =>
              intro n hmu hn hno H locs hP hD hS ls hl
              refine lv_iload hx hb dX9_pair_77 (lv_at hl 7 rfl) ?_
              refine lv_bipush (v := 36) hx hb dX9_pair_79 rfl ?_
              refine lv_icmp_ge (tgt := 127) hx hb dX9_pair_81 (by decide) (fun c6 => ?_) (fun c6 => ?_)
              · skip
                have c6' := Int32.not_lt.mpr c6
                have hn9 : n = 36 := by have := lp_ge (by omega) c6; rw [show (36 : Int32).toInt = 36 from rfl] at this; omega
                subst hn9
                refine lv_iload_n hx hb dX9_pair_127 rfl (lv_at hl 3 rfl) ?_
                refine lv_iconst (v := -1) hx hb dX9_pair_128 rfl ?_
                refine lv_icmp_ne (tgt := 137) hx hb dX9_pair_129 (by decide) (fun c7 => ?_) (fun c7 => ?_)
                · skip
                  refine lv_bipush (v := -5) hx hb dX9_pair_137 rfl ?_
                  have hP : kP g (mO g o ab be lm ra ta ti fa um ua hh ++ (aW g (o 1) 3 rf ++ (aW g (o 2) 45 r ++ (aW g (o 3) 45 x5 ++ (aW g (o 8) 72 (gnF r (setB (fun j => yWof r (nI j) p) (cl (r 2))) (setB (fun j => yWof r (nI j) q) (cl (r 2))) gn 36) ++ []))))) _ := kP_perm (((pmA _ (pmA _ (pmA _ (pm_swap _ _ _)))).trans (pmA _ (pmA _ (pm_swap _ _ _)))).trans (pmA _ (pm_swap _ _ _))) hP
                  have hD : va_D _ (mO g o ab be lm ra ta ti fa um ua hh ++ (aW g (o 1) 3 rf ++ (aW g (o 2) 45 r ++ (aW g (o 3) 45 x5 ++ (aW g (o 8) 72 (gnF r (setB (fun j => yWof r (nI j) p) (cl (r 2))) (setB (fun j => yWof r (nI j) q) (cl (r 2))) gn 36) ++ []))))) := vD_perm (((pmA _ (pmA _ (pmA _ (pm_swap _ _ _)))).trans (pmA _ (pmA _ (pm_swap _ _ _)))).trans (pmA _ (pm_swap _ _ _))) hD
                  exact ret_rxi (S := (Nat → Int32) × (Nat → Int32)) (x5, (gnF r (setB (fun j => yWof r (nI j) p) (cl (r 2))) (setB (fun j => yWof r (nI j) q) (cl (r 2))) gn 36)) hx hb hr hlk (by rw [if_pos (by simp [c1, c2, c3, c4])]; unfold prX; rw [if_pos (fst_none hno), if_neg c7]) (kP_eq (by rw [if_pos (by simp [c1, c2, c3, c4])]) hP) hS dX9_pair_139
                · skip
                  refine lv_iload hx hb dX9_pair_132 (lv_at hl 6 rfl) ?_
                  refine lv_goto (tgt := 139) hx hb dX9_pair_134 (by decide) ?_
                  have hP : kP g (mO g o ab be lm ra ta ti fa um ua hh ++ (aW g (o 1) 3 rf ++ (aW g (o 2) 45 r ++ (aW g (o 3) 45 x5 ++ (aW g (o 8) 72 (gnF r (setB (fun j => yWof r (nI j) p) (cl (r 2))) (setB (fun j => yWof r (nI j) q) (cl (r 2))) gn 36) ++ []))))) _ := kP_perm (((pmA _ (pmA _ (pmA _ (pm_swap _ _ _)))).trans (pmA _ (pmA _ (pm_swap _ _ _)))).trans (pmA _ (pm_swap _ _ _))) hP
                  have hD : va_D _ (mO g o ab be lm ra ta ti fa um ua hh ++ (aW g (o 1) 3 rf ++ (aW g (o 2) 45 r ++ (aW g (o 3) 45 x5 ++ (aW g (o 8) 72 (gnF r (setB (fun j => yWof r (nI j) p) (cl (r 2))) (setB (fun j => yWof r (nI j) q) (cl (r 2))) gn 36) ++ []))))) := vD_perm (((pmA _ (pmA _ (pmA _ (pm_swap _ _ _)))).trans (pmA _ (pmA _ (pm_swap _ _ _)))).trans (pmA _ (pm_swap _ _ _))) hD
                  exact ret_rxi (S := (Nat → Int32) × (Nat → Int32)) (x5, (gnF r (setB (fun j => yWof r (nI j) p) (cl (r 2))) (setB (fun j => yWof r (nI j) q) (cl (r 2))) gn 36)) hx hb hr hlk (by rw [if_pos (by simp [c1, c2, c3, c4])]; unfold prX; rw [if_pos (fst_none hno), if_pos c7]) (kP_eq (by rw [if_pos (by simp [c1, c2, c3, c4])]) hP) hS dX9_pair_139
              · skip
                have c6' := Int32.not_le.mp c6
                have hn9 : n < 36 := by have := lp_lt (by omega) c6; rw [show (36 : Int32).toInt = 36 from rfl] at this; omega
                refine lv_aload_n hx hb dX9_pair_84 rfl (lv_at hl 0 rfl) ?_
                refine lv_iload hx hb dX9_pair_85 (lv_at hl 4 rfl) ?_
                refine lv_iload hx hb dX9_pair_87 (lv_at hl 5 rfl) ?_
                refine lv_iload hx hb dX9_pair_89 (lv_at hl 7 rfl) ?_
                refine ro_i (run_V (As := [.int (setB (fun j => yWof r (nI j) p) (cl (r 2))), .int (setB (fun j => yWof r (nI j) q) (cl (r 2))), .int (nI n)]) (rest := []) hC.1 ckX9_rests (kX9_rests l g o ab be lm ra ta ti fa um ua hh (gnF r (setB (fun j => yWof r (nI j) p) (cl (r 2))) (setB (fun j => yWof r (nI j) q) (cl (r 2))) gn 36) (setB (fun j => yWof r (nI j) p) (cl (r 2))) (setB (fun j => yWof r (nI j) q) (cl (r 2))) n hn9) (gw_in m_1343 rfl) (fb_ro _ _ _) (va_recv hK.1 (kP_app.mp hP).1 (q0 := 0) rfl rfl) (fun U hU hW => ⟨by rw [hU]; exact (kP_app.mpr ⟨(kP_app.mp hP).1, (kP_app.mpr ⟨(kP_app.mp (kP_app.mp (kP_app.mp (kP_app.mp hP).2).2).2).1, (kP_mem.mpr (fun _ h => absurd h List.not_mem_nil))⟩)⟩), kK_warm hW hK⟩) ⟨rfl, rfl, Nat.le_of_ble_eq_true rfl, Nat.le_of_ble_eq_true rfl⟩ rfl hl.1 rfl (Nat.le_of_ble_eq_true rfl) dX9_pair_91 ⟨Nat.le_of_ble_eq_true rfl, Nat.le_of_ble_eq_true rfl⟩) ?_
                refine lv_if_eq (tgt := 121) hx hb dX9_pair_94 (by decide) (fun c8 => ?_) (fun c8 => ?_)
                · skip
                  have c8 := b2i_0 c8
                  refine lv_iinc (v := nI (n + 1)) (lv' := [(7, .int (nI (n + 1))), (0, .ref (o 0)), (1, .int (p)), (2, .int (q)), (3, .int (k)), (4, .int (setB (fun j => yWof r (nI j) p) (cl (r 2)))), (5, .int (setB (fun j => yWof r (nI j) q) (cl (r 2)))), (6, .int (nI (prC (fun C => rsL (setB (fun j => yWof r (nI j) p) (cl (r 2))) (setB (fun j => yWof r (nI j) q) (cl (r 2))) (gnF r (setB (fun j => yWof r (nI j) p) (cl (r 2))) (setB (fun j => yWof r (nI j) q) (cl (r 2))) gn 36) C 6) n)))]) hx hb dX9_pair_121 hl (k := 7) rfl (inc_nI n) (by decide) rfl (fun ls hl => ?_)
                  refine lv_goto (tgt := 77) hx hb dX9_pair_124 (by decide) ?_
                  have e6 : nI (prC (fun C => rsL (setB (fun j => yWof r (nI j) p) (cl (r 2))) (setB (fun j => yWof r (nI j) q) (cl (r 2))) (gnF r (setB (fun j => yWof r (nI j) p) (cl (r 2))) (setB (fun j => yWof r (nI j) q) (cl (r 2))) gn 36) C 6) (n + 1)) = nI (prC (fun C => rsL (setB (fun j => yWof r (nI j) p) (cl (r 2))) (setB (fun j => yWof r (nI j) q) (cl (r 2))) (gnF r (setB (fun j => yWof r (nI j) p) (cl (r 2))) (setB (fun j => yWof r (nI j) q) (cl (r 2))) gn 36) C 6) n) := congrArg nI (if_neg (fun h => absurd (h.symm.trans c8) (by decide)))
                  have hl : lv_has ls 8 [(7, .int (nI (n + 1))), (0, .ref (o 0)), (1, .int (p)), (2, .int (q)), (3, .int (k)), (4, .int (setB (fun j => yWof r (nI j) p) (cl (r 2)))), (5, .int (setB (fun j => yWof r (nI j) q) (cl (r 2)))), (6, .int (nI (prC (fun C => rsL (setB (fun j => yWof r (nI j) p) (cl (r 2))) (setB (fun j => yWof r (nI j) q) (cl (r 2))) (gnF r (setB (fun j => yWof r (nI j) p) (cl (r 2))) (setB (fun j => yWof r (nI j) q) (cl (r 2))) gn 36) C 6) (n + 1))))] := by rw [e6]; exact hl
                  exact ih77 (n + 1) (by omega) (by omega) (lt_s hno (by simp [c8])) _ _ hP hD hS _ (lv_sub hl [1, 2, 3, 4, 5, 6, 7, 0] rfl)
                · skip
                  have c8 := b2i_1 c8
                  refine lv_iload hx hb dX9_pair_97 (lv_at hl 6 rfl) ?_
                  refine lv_iload_n hx hb dX9_pair_99 rfl (lv_at hl 3 rfl) ?_
                  refine lv_icmp_ne (tgt := 118) hx hb dX9_pair_100 (by decide) (fun c9 => ?_) (fun c9 => ?_)
                  · skip
                    refine lv_iinc (v := nI (prC (fun C => rsL (setB (fun j => yWof r (nI j) p) (cl (r 2))) (setB (fun j => yWof r (nI j) q) (cl (r 2))) (gnF r (setB (fun j => yWof r (nI j) p) (cl (r 2))) (setB (fun j => yWof r (nI j) q) (cl (r 2))) gn 36) C 6) n + 1)) (lv' := [(6, .int (nI (prC (fun C => rsL (setB (fun j => yWof r (nI j) p) (cl (r 2))) (setB (fun j => yWof r (nI j) q) (cl (r 2))) (gnF r (setB (fun j => yWof r (nI j) p) (cl (r 2))) (setB (fun j => yWof r (nI j) q) (cl (r 2))) gn 36) C 6) n + 1))), (0, .ref (o 0)), (1, .int (p)), (2, .int (q)), (3, .int (k)), (4, .int (setB (fun j => yWof r (nI j) p) (cl (r 2)))), (5, .int (setB (fun j => yWof r (nI j) q) (cl (r 2)))), (7, .int (nI n))]) hx hb dX9_pair_118 hl (k := 6) rfl (inc_nI (prC (fun C => rsL (setB (fun j => yWof r (nI j) p) (cl (r 2))) (setB (fun j => yWof r (nI j) q) (cl (r 2))) (gnF r (setB (fun j => yWof r (nI j) p) (cl (r 2))) (setB (fun j => yWof r (nI j) q) (cl (r 2))) gn 36) C 6) n)) (by decide) rfl (fun ls hl => ?_)
                    refine lv_iinc (v := nI (n + 1)) (lv' := [(7, .int (nI (n + 1))), (6, .int (nI (prC (fun C => rsL (setB (fun j => yWof r (nI j) p) (cl (r 2))) (setB (fun j => yWof r (nI j) q) (cl (r 2))) (gnF r (setB (fun j => yWof r (nI j) p) (cl (r 2))) (setB (fun j => yWof r (nI j) q) (cl (r 2))) gn 36) C 6) n + 1))), (0, .ref (o 0)), (1, .int (p)), (2, .int (q)), (3, .int (k)), (4, .int (setB (fun j => yWof r (nI j) p) (cl (r 2)))), (5, .int (setB (fun j => yWof r (nI j) q) (cl (r 2))))]) hx hb dX9_pair_121 hl (k := 7) rfl (inc_nI n) (by decide) rfl (fun ls hl => ?_)
                    refine lv_goto (tgt := 77) hx hb dX9_pair_124 (by decide) ?_
                    have e6 : nI (prC (fun C => rsL (setB (fun j => yWof r (nI j) p) (cl (r 2))) (setB (fun j => yWof r (nI j) q) (cl (r 2))) (gnF r (setB (fun j => yWof r (nI j) p) (cl (r 2))) (setB (fun j => yWof r (nI j) q) (cl (r 2))) gn 36) C 6) (n + 1)) = nI (prC (fun C => rsL (setB (fun j => yWof r (nI j) p) (cl (r 2))) (setB (fun j => yWof r (nI j) q) (cl (r 2))) (gnF r (setB (fun j => yWof r (nI j) p) (cl (r 2))) (setB (fun j => yWof r (nI j) q) (cl (r 2))) gn 36) C 6) n + 1) := congrArg nI (if_pos c8)
                    have hl : lv_has ls 8 [(7, .int (nI (n + 1))), (6, .int (nI (prC (fun C => rsL (setB (fun j => yWof r (nI j) p) (cl (r 2))) (setB (fun j => yWof r (nI j) q) (cl (r 2))) (gnF r (setB (fun j => yWof r (nI j) p) (cl (r 2))) (setB (fun j => yWof r (nI j) q) (cl (r 2))) gn 36) C 6) (n + 1)))), (0, .ref (o 0)), (1, .int (p)), (2, .int (q)), (3, .int (k)), (4, .int (setB (fun j => yWof r (nI j) p) (cl (r 2)))), (5, .int (setB (fun j => yWof r (nI j) q) (cl (r 2))))] := by rw [e6]; exact hl
                    exact ih77 (n + 1) (by omega) (by omega) (lt_s hno (by simp [c8, c9])) _ _ hP hD hS _ (lv_sub hl [2, 3, 4, 5, 6, 7, 1, 0] rfl)
                  · skip
                    refine lv_bipush (v := 10) hx hb dX9_pair_103 rfl ?_
                    refine lv_iload hx hb dX9_pair_105 (lv_at hl 7 rfl) ?_
                    refine lv_bipush (v := 6) hx hb dX9_pair_107 rfl ?_
                    refine lv_idiv hx hb dX9_pair_109 (by decide) ?_
                    refine top_i (x := (nI n) / 6) (y := nI (n / 6)) (pk_div (d := 6) (by omega) (by omega) (by omega)) ?_
                    refine lv_imul hx hb dX9_pair_110 ?_
                    refine top_i (x := 10 * (nI (n / 6))) (y := nI (10 * (n / 6))) (show nI 10 * _ = _ from pk_mul 10 _) ?_
                    refine lv_iload hx hb dX9_pair_111 (lv_at hl 7 rfl) ?_
                    refine lv_bipush (v := 6) hx hb dX9_pair_113 rfl ?_
                    refine lv_irem hx hb dX9_pair_115 (by decide) ?_
                    refine top_i (x := (nI n) - (nI n) / 6 * 6) (y := nI (n % 6)) (pk_rem (d := 6) (by omega) (by omega) (by omega)) ?_
                    refine lv_iadd hx hb dX9_pair_116 ?_
                    refine top_i (x := (nI (10 * (n / 6))) + (nI (n % 6))) (y := nI (10 * (n / 6) + n % 6)) (nI_add _ _) ?_
                    have hP : kP g (mO g o ab be lm ra ta ti fa um ua hh ++ (aW g (o 1) 3 rf ++ (aW g (o 2) 45 r ++ (aW g (o 3) 45 x5 ++ (aW g (o 8) 72 (gnF r (setB (fun j => yWof r (nI j) p) (cl (r 2))) (setB (fun j => yWof r (nI j) q) (cl (r 2))) gn 36) ++ []))))) _ := kP_perm (((pmA _ (pmA _ (pmA _ (pm_swap _ _ _)))).trans (pmA _ (pmA _ (pm_swap _ _ _)))).trans (pmA _ (pm_swap _ _ _))) hP
                    have hD : va_D _ (mO g o ab be lm ra ta ti fa um ua hh ++ (aW g (o 1) 3 rf ++ (aW g (o 2) 45 r ++ (aW g (o 3) 45 x5 ++ (aW g (o 8) 72 (gnF r (setB (fun j => yWof r (nI j) p) (cl (r 2))) (setB (fun j => yWof r (nI j) q) (cl (r 2))) gn 36) ++ []))))) := vD_perm (((pmA _ (pmA _ (pmA _ (pm_swap _ _ _)))).trans (pmA _ (pmA _ (pm_swap _ _ _)))).trans (pmA _ (pm_swap _ _ _))) hD
                    exact ret_rxi (S := (Nat → Int32) × (Nat → Int32)) (x5, (gnF r (setB (fun j => yWof r (nI j) p) (cl (r 2))) (setB (fun j => yWof r (nI j) q) (cl (r 2))) gn 36)) hx hb hr hlk (by rw [if_pos (by simp [c1, c2, c3, c4])]; unfold prX; rw [fst_hit (i := n) (by simp [c8, c9]) hn9 hno, if_neg (nI_ne1 (by omega)), cl_nI (by omega)]) (kP_eq (by rw [if_pos (by simp [c1, c2, c3, c4])]) hP) hS dX9_pair_117
          exact cut77 _ 0 (Nat.lt_succ_self _) (by omega) (fun j h => absurd h (Nat.not_lt_zero j)) _ _ hP hD hS _ (lv_sub hl [4, 5, 6, 7, 3, 2, 1, 0] rfl)
        · skip
          have c4' := Int32.not_le.mp c4
          refine lv_aload_n hx hb dX9_pair_42 rfl (lv_at hl 0 rfl) ?_
          refine lv_bipush (v := -10) hx hb dX9_pair_43 rfl ?_
          refine rw_i (run_V (As := [.int (-10)]) (rest := []) hC.1 ckX9_bad (kX9_bad l g o ab be lm ra ta ti fa um ua hh rf (-10)) (gw_in m_1041 rfl) (fb_rw _ _ _) (va_recv hK.1 (kP_app.mp hP).1 (q0 := 0) rfl rfl) (fun U hU hW => ⟨by rw [hU]; exact (kP_app.mpr ⟨(kP_app.mp hP).1, (kP_app.mpr ⟨(kP_app.mp (kP_app.mp hP).2).1, kP_nil⟩)⟩), kK_warm hW hK, vD_sub (sbA _ (sbA _ (sb0 _))) hD⟩) ⟨rfl, rfl, Nat.le_of_ble_eq_true rfl, Nat.le_of_ble_eq_true rfl⟩ rfl hl.1 rfl (Nat.le_of_ble_eq_true rfl) dX9_pair_45 ⟨Nat.le_of_ble_eq_true rfl, Nat.le_of_ble_eq_true rfl⟩) (adr_app rfl (adr_app aW_adr rfl)) (asc2 _ _ _) (ww' := mO g o ab be lm ra ta ti fa um ua hh ++ (aW g (o 1) 3 (upd rf 0 (rf 0 + 1)) ++ (aW g (o 2) 45 r ++ (aW g (o 3) 45 tr ++ (aW g (o 8) 72 gn ++ []))))) (asc2 _ _ _) hP hD hS (fun H locs hP hD hS => ?_)
          exact ret_rxi (S := (Nat → Int32) × (Nat → Int32)) (tr, gn) hx hb hr hlk (by rw [if_neg (by simp [c1, c2, c3, c4, c4'])]) (kP_eq (by rw [if_neg (by simp [c1, c2, c3, c4, c4'])]) hP) hS dX9_pair_48
