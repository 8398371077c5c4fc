theorem ckX9_alike : ckV yX9_alike cX9_alike 13 (some .int) 5 := ⟨(gw_in m_1298 rfl), (gw_in m_71 rfl), ⟨(gw_in m_1297 rfl), (gw_in m_53 rfl)⟩, by decide +kernel, by decide +kernel, by decide +kernel⟩
def lkF (r : Nat → Int32) (hd i f c a : Int32) : Int32 :=
  if hd = 0 then crk a (r (21 + cl i)) c f (yNext r) else crk (r (15 + cl i)) a c f (yNext r)
def alM (r : Nat → Int32) (hd i s f c : Int32) (k : Nat) : Nat → Int32
  | 0 => 0
  | n + 1 => alM r hd i s f c k n + (if hasB s (nI n) = true ∧ lkF r hd i f c (nI k) = lkF r hd i f c (nI n) then 1 else 0)
def alK (r : Nat → Int32) (hd i s f c : Int32) : Nat → Int32
  | 0 => 0
  | k + 1 => if (if hasB s (nI k) = true then alM r hd i s f c k 10 else 0) ≤ alK r hd i s f c k then alK r hd i s f c k else (if hasB s (nI k) = true then alM r hd i s f c k 10 else 0)
set_option maxHeartbeats 4000000 in
set_option maxRecDepth 100000 in
theorem kX9_alike (l : Launch) (g : gG) (o : Nat → Nat) (ab be : Int64) (lm ra ta : Nat) (ti fa : Int32) (um ua : Nat) (hh : Int64) (r : Nat → Int32) (i s hd f c : Int32) (hi : vp_in i 6) : Met l yX9_alike (.code yX9_alike cX9_alike 13 (some .int) :: gw) (rmN 1) (va_Pc [.ref (o 0), .int (i), .int (s), .int (hd), .int (f), .int (c)] (roPre g (mO g o ab be lm ra ta ti fa um ua hh ++ (aW g (o 2) 45 r ++ [])))) (vp_Si (fun v => v = (alK r hd i s f c 10))) 0 0 (fun _ => False) := by
  refine met_start (by decide) (Nat.le_of_ble_eq_true rfl) ?_
  intro pp ee ss mm bl mt cd hC hpre ls hl
  obtain ⟨⟨hx, hb, hml, hown, hts⟩, hr, hlk, hnm⟩ := id hC
  have hl : lv_has ls 13 [(0, .ref (o 0)), (1, .int (i)), (2, .int (s)), (3, .int (hd)), (4, .int (f)), (5, .int (c))] := hl
  obtain ⟨hP, hK⟩ := hpre
  refine lv_aload_n hx hb dX9_alike_0 rfl (lv_at hl 0 rfl) ?_
  refine kget hC.1 hK (kP_app.mp hP).1 0 rfl rfl in_9 3 (by decide) (gw_in m_963 rfl) rfl dX9_alike_1 ?_
  refine ro_i (run_S (As := [.ref (o 2)]) (rest := []) hC.1 ckX9_nextNumber (kX9_nextNumber l g (o 2) r) (gw_in m_1145 rfl) (fb_ro _ _ _) (fun U hU hW => ⟨by rw [hU]; exact (kP_app.mp (kP_app.mp hP).2).1, kK_warm hW hK⟩) ⟨rfl, rfl, Nat.le_of_ble_eq_true rfl, Nat.le_of_ble_eq_true rfl⟩ rfl hl.1 rfl (Nat.le_of_ble_eq_true rfl) dX9_alike_4 ⟨Nat.le_of_ble_eq_true rfl, Nat.le_of_ble_eq_true rfl⟩) ?_
  refine lv_istore (lv' := [(6, .int (yNext r)), (0, .ref (o 0)), (1, .int (i)), (2, .int (s)), (3, .int (hd)), (4, .int (f)), (5, .int (c))]) hx hb dX9_alike_7 hl (by decide) rfl (fun ls hl => ?_)
  refine lv_iconst (v := 0) hx hb dX9_alike_9 rfl ?_
  refine lv_istore (lv' := [(7, .int (0)), (6, .int (yNext r)), (0, .ref (o 0)), (1, .int (i)), (2, .int (s)), (3, .int (hd)), (4, .int (f)), (5, .int (c))]) hx hb dX9_alike_10 hl (by decide) rfl (fun ls hl => ?_)
  refine lv_iconst (v := 0) hx hb dX9_alike_12 rfl ?_
  refine lv_istore (lv' := [(8, .int (0)), (7, .int (0)), (6, .int (yNext r)), (0, .ref (o 0)), (1, .int (i)), (2, .int (s)), (3, .int (hd)), (4, .int (f)), (5, .int (c))]) hx hb dX9_alike_13 hl (by decide) rfl (fun ls hl => ?_)
  have cut15 : ∀ kk : Nat, ∀ (k : Nat), 11 - k < kk → (hk : k ≤ 10) → ∀ (ls : Array Slot), lv_has ls 13 [(0, .ref (o 0)), (1, .int (i)), (2, .int (s)), (3, .int (hd)), (4, .int (f)), (5, .int (c)), (6, .int (yNext r)), (7, .int (alK r hd i s f c k)), (8, .int (nI k))] → W pp l ee (rmN 1) ss mm ([.ref (o 0), .int (i), .int (s), .int (hd), .int (f), .int (c)] : List Value).toArray bl mt cd ss.heap [] 0 0 (MQ bl (vp_Si (fun v => v = (alK r hd i s f c 10))) ([.ref (o 0), .int (i), .int (s), .int (hd), .int (f), .int (c)] : List Value).toArray ss 0 0 (fun _ => False)) (F0 mm 15 ls []) := by
    intro kk
    induction kk with
    | zero => intro k hmu; exact absurd hmu (Nat.not_lt_zero _)
    | succ kk ih15 =>
      intro k hmu hk ls hl
      refine lv_iload hx hb dX9_alike_15 (lv_at hl 8 rfl) ?_
      refine lv_bipush (v := 10) hx hb dX9_alike_17 rfl ?_
      refine lv_icmp_ge (tgt := 196) hx hb dX9_alike_19 (by decide) (fun c1 => ?_) (fun c1 => ?_)
      · skip
        have c1' := Int32.not_lt.mpr c1
        have hk9 : k = 10 := by have := lp_ge (by omega) c1; rw [show (10 : Int32).toInt = 10 from rfl] at this; omega
        subst hk9
        refine lv_iload hx hb dX9_alike_196 (lv_at hl 7 rfl) ?_
        exact ret_roi hx hb hr hlk (by rfl) dX9_alike_198
      · skip
        have c1' := Int32.not_le.mp c1
        have hk9 : k < 10 := by have := lp_lt (by omega) c1; rw [show (10 : Int32).toInt = 10 from rfl] at this; omega
        refine lv_iconst (v := 0) hx hb dX9_alike_22 rfl ?_
        refine lv_istore (lv' := [(9, .int (0)), (0, .ref (o 0)), (1, .int (i)), (2, .int (s)), (3, .int (hd)), (4, .int (f)), (5, .int (c)), (6, .int (yNext r)), (7, .int (alK r hd i s f c k)), (8, .int (nI k))]) hx hb dX9_alike_23 hl (by decide) rfl (fun ls hl => ?_)
        refine lv_iconst (v := 0) hx hb dX9_alike_25 rfl ?_
        refine lv_istore (lv' := [(10, .int (0)), (9, .int (0)), (0, .ref (o 0)), (1, .int (i)), (2, .int (s)), (3, .int (hd)), (4, .int (f)), (5, .int (c)), (6, .int (yNext r)), (7, .int (alK r hd i s f c k)), (8, .int (nI k))]) hx hb dX9_alike_26 hl (by decide) rfl (fun ls hl => ?_)
        have cut28 : ∀ kk : Nat, ∀ (n : Nat), 11 - n < kk → (hn : n ≤ 10) → (hz : n = 0 ∨ hasB s (nI k) = true) → ∀ (ls : Array Slot), lv_has ls 13 [(0, .ref (o 0)), (1, .int (i)), (2, .int (s)), (3, .int (hd)), (4, .int (f)), (5, .int (c)), (6, .int (yNext r)), (7, .int (alK r hd i s f c k)), (8, .int (nI k)), (9, .int (alM r hd i s f c k n)), (10, .int (nI n))] → W pp l ee (rmN 1) ss mm ([.ref (o 0), .int (i), .int (s), .int (hd), .int (f), .int (c)] : List Value).toArray bl mt cd ss.heap [] 0 0 (MQ bl (vp_Si (fun v => v = (alK r hd i s f c 10))) ([.ref (o 0), .int (i), .int (s), .int (hd), .int (f), .int (c)] : List Value).toArray ss 0 0 (fun _ => False)) (F0 mm 28 ls []) := by
          intro kk
          induction kk with
          | zero => intro n hmu; exact absurd hmu (Nat.not_lt_zero _)
          | succ kk ih28 =>
            intro n hmu hn hz ls hl
            refine lv_iload hx hb dX9_alike_28 (lv_at hl 10 rfl) ?_
            refine lv_bipush (v := 10) hx hb dX9_alike_30 rfl ?_
            refine lv_icmp_ge (tgt := 174) hx hb dX9_alike_32 (by decide) (fun c2 => ?_) (fun c2 => ?_)
            · skip
              have c2' := Int32.not_lt.mpr c2
              have hn9 : n = 10 := by have := lp_ge (by omega) c2; rw [show (10 : Int32).toInt = 10 from rfl] at this; omega
              have e8 : (if hasB s (nI k) = true then alM r hd i s f c k 10 else 0) = alM r hd i s f c k n := hz.elim (fun h9 => by first | omega | (subst h9; simp [alM, hn, hz, c2, c2'])) (fun h9 => by first | (rw [if_pos h9, hn9]) | exact absurd h9 (by simp [hn, hz, c2, c2']))
              have hl : lv_has ls 13 [(0, .ref (o 0)), (1, .int (i)), (2, .int (s)), (3, .int (hd)), (4, .int (f)), (5, .int (c)), (6, .int (yNext r)), (7, .int (alK r hd i s f c k)), (8, .int (nI k)), (9, .int ((if hasB s (nI k) = true then alM r hd i s f c k 10 else 0))), (10, .int (nI n))] := by rw [e8]; exact hl
              refine lv_iload hx hb dX9_alike_174 (lv_at hl 9 rfl) ?_
              refine lv_iload hx hb dX9_alike_176 (lv_at hl 7 rfl) ?_
              refine lv_icmp_le (tgt := 186) hx hb dX9_alike_178 (by decide) (fun c3 => ?_) (fun c3 => ?_)
              · skip
                have c3' := Int32.not_lt.mpr c3
                refine lv_iload hx hb dX9_alike_186 (lv_at hl 7 rfl) ?_
                refine lv_istore (lv' := [(7, .int (alK r hd i s f c k)), (0, .ref (o 0)), (1, .int (i)), (2, .int (s)), (3, .int (hd)), (4, .int (f)), (5, .int (c)), (6, .int (yNext r)), (8, .int (nI k)), (9, .int ((if hasB s (nI k) = true then alM r hd i s f c k 10 else 0))), (10, .int (nI n))]) hx hb dX9_alike_188 hl (by decide) rfl (fun ls hl => ?_)
                refine lv_iinc (v := nI (k + 1)) (lv' := [(8, .int (nI (k + 1))), (7, .int (alK r hd i s f c k)), (0, .ref (o 0)), (1, .int (i)), (2, .int (s)), (3, .int (hd)), (4, .int (f)), (5, .int (c)), (6, .int (yNext r)), (9, .int ((if hasB s (nI k) = true then alM r hd i s f c k 10 else 0))), (10, .int (nI n))]) hx hb dX9_alike_190 hl (k := 8) rfl (inc_nI k) (by decide) rfl (fun ls hl => ?_)
                refine lv_goto (tgt := 15) hx hb dX9_alike_193 (by decide) ?_
                have e7 : alK r hd i s f c (k + 1) = alK r hd i s f c k := by first | exact if_pos c3' | exact if_neg c3' | exact if_pos c3 | exact if_neg c3 | exact if_pos c2' | exact if_neg c2'
                have hl : lv_has ls 13 [(8, .int (nI (k + 1))), (7, .int (alK r hd i s f c (k + 1))), (0, .ref (o 0)), (1, .int (i)), (2, .int (s)), (3, .int (hd)), (4, .int (f)), (5, .int (c)), (6, .int (yNext r)), (9, .int ((if hasB s (nI k) = true then alM r hd i s f c k 10 else 0))), (10, .int (nI n))] := by rw [e7]; exact hl
                exact ih15 (k + 1) (by omega) (by omega) _ (lv_sub hl [2, 3, 4, 5, 6, 7, 8, 1, 0] rfl)
              · skip
                have c3' := Int32.not_le.mp c3
                refine lv_iload hx hb dX9_alike_181 (lv_at hl 9 rfl) ?_
                refine lv_goto (tgt := 188) hx hb dX9_alike_183 (by decide) ?_
                refine lv_istore (lv' := [(7, .int ((if hasB s (nI k) = true then alM r hd i s f c k 10 else 0))), (0, .ref (o 0)), (1, .int (i)), (2, .int (s)), (3, .int (hd)), (4, .int (f)), (5, .int (c)), (6, .int (yNext r)), (8, .int (nI k)), (9, .int ((if hasB s (nI k) = true then alM r hd i s f c k 10 else 0))), (10, .int (nI n))]) hx hb dX9_alike_188 hl (by decide) rfl (fun ls hl => ?_)
                refine lv_iinc (v := nI (k + 1)) (lv' := [(8, .int (nI (k + 1))), (7, .int ((if hasB s (nI k) = true then alM r hd i s f c k 10 else 0))), (0, .ref (o 0)), (1, .int (i)), (2, .int (s)), (3, .int (hd)), (4, .int (f)), (5, .int (c)), (6, .int (yNext r)), (9, .int ((if hasB s (nI k) = true then alM r hd i s f c k 10 else 0))), (10, .int (nI n))]) hx hb dX9_alike_190 hl (k := 8) rfl (inc_nI k) (by decide) rfl (fun ls hl => ?_)
                refine lv_goto (tgt := 15) hx hb dX9_alike_193 (by decide) ?_
                have e7 : alK r hd i s f c (k + 1) = (if hasB s (nI k) = true then alM r hd i s f c k 10 else 0) := by first | exact if_pos c3' | exact if_neg c3' | exact if_pos c3 | exact if_neg c3 | exact if_pos c2' | exact if_neg c2'
                have hl : lv_has ls 13 [(8, .int (nI (k + 1))), (7, .int (alK r hd i s f c (k + 1))), (0, .ref (o 0)), (1, .int (i)), (2, .int (s)), (3, .int (hd)), (4, .int (f)), (5, .int (c)), (6, .int (yNext r)), (9, .int ((if hasB s (nI k) = true then alM r hd i s f c k 10 else 0))), (10, .int (nI n))] := by rw [e7]; exact hl
                exact ih15 (k + 1) (by omega) (by omega) _ (lv_sub hl [2, 3, 4, 5, 6, 7, 8, 1, 0] rfl)
            · skip
              have c2' := Int32.not_le.mp c2
              have hn9 : n < 10 := by have := lp_lt (by omega) c2; rw [show (10 : Int32).toInt = 10 from rfl] at this; omega
              refine lv_iload_n hx hb dX9_alike_35 rfl (lv_at hl 2 rfl) ?_
              refine lv_iload hx hb dX9_alike_36 (lv_at hl 8 rfl) ?_
              refine ro_i (run_S (As := [.int (s), .int (nI k)]) (rest := []) hC.1 ckX9_has (kX9_has l s (nI k)) (gw_in m_1225 rfl) (fb_nil _) (fun _ _ _ => trivial) ⟨rfl, rfl, Nat.le_of_ble_eq_true rfl, Nat.le_of_ble_eq_true rfl⟩ rfl hl.1 rfl (Nat.le_of_ble_eq_true rfl) dX9_alike_38 ⟨Nat.le_of_ble_eq_true rfl, Nat.le_of_ble_eq_true rfl⟩) ?_
              refine lv_if_eq (tgt := 174) hx hb dX9_alike_41 (by decide) (fun c4 => ?_) (fun c4 => ?_)
              · skip
                have c4 := b2i_0 c4
                have e8 : (if hasB s (nI k) = true then alM r hd i s f c k 10 else 0) = alM r hd i s f c k n := hz.elim (fun h9 => by first | omega | (subst h9; simp [alM, hn, hz, c2, c2', c4])) (fun h9 => by first | (rw [if_pos h9, hn9]) | exact absurd h9 (by simp [hn, hz, c2, c2', c4]))
                have hl : lv_has ls 13 [(0, .ref (o 0)), (1, .int (i)), (2, .int (s)), (3, .int (hd)), (4, .int (f)), (5, .int (c)), (6, .int (yNext r)), (7, .int (alK r hd i s f c k)), (8, .int (nI k)), (9, .int ((if hasB s (nI k) = true then alM r hd i s f c k 10 else 0))), (10, .int (nI n))] := by rw [e8]; exact hl
                refine lv_iload hx hb dX9_alike_174 (lv_at hl 9 rfl) ?_
                refine lv_iload hx hb dX9_alike_176 (lv_at hl 7 rfl) ?_
                refine lv_icmp_le (tgt := 186) hx hb dX9_alike_178 (by decide) (fun c5 => ?_) (fun c5 => ?_)
                · skip
                  have c5' := Int32.not_lt.mpr c5
                  refine lv_iload hx hb dX9_alike_186 (lv_at hl 7 rfl) ?_
                  refine lv_istore (lv' := [(7, .int (alK r hd i s f c k)), (0, .ref (o 0)), (1, .int (i)), (2, .int (s)), (3, .int (hd)), (4, .int (f)), (5, .int (c)), (6, .int (yNext r)), (8, .int (nI k)), (9, .int ((if hasB s (nI k) = true then alM r hd i s f c k 10 else 0))), (10, .int (nI n))]) hx hb dX9_alike_188 hl (by decide) rfl (fun ls hl => ?_)
                  refine lv_iinc (v := nI (k + 1)) (lv' := [(8, .int (nI (k + 1))), (7, .int (alK r hd i s f c k)), (0, .ref (o 0)), (1, .int (i)), (2, .int (s)), (3, .int (hd)), (4, .int (f)), (5, .int (c)), (6, .int (yNext r)), (9, .int ((if hasB s (nI k) = true then alM r hd i s f c k 10 else 0))), (10, .int (nI n))]) hx hb dX9_alike_190 hl (k := 8) rfl (inc_nI k) (by decide) rfl (fun ls hl => ?_)
                  refine lv_goto (tgt := 15) hx hb dX9_alike_193 (by decide) ?_
                  have e7 : alK r hd i s f c (k + 1) = alK r hd i s f c k := by first | exact if_pos c5' | exact if_neg c5' | exact if_pos c5 | exact if_neg c5 | exact if_pos c4 | exact if_neg c4
                  have hl : lv_has ls 13 [(8, .int (nI (k + 1))), (7, .int (alK r hd i s f c (k + 1))), (0, .ref (o 0)), (1, .int (i)), (2, .int (s)), (3, .int (hd)), (4, .int (f)), (5, .int (c)), (6, .int (yNext r)), (9, .int ((if hasB s (nI k) = true then alM r hd i s f c k 10 else 0))), (10, .int (nI n))] := by rw [e7]; exact hl
                  exact ih15 (k + 1) (by omega) (by omega) _ (lv_sub hl [2, 3, 4, 5, 6, 7, 8, 1, 0] rfl)
                · skip
                  have c5' := Int32.not_le.mp c5
                  refine lv_iload hx hb dX9_alike_181 (lv_at hl 9 rfl) ?_
                  refine lv_goto (tgt := 188) hx hb dX9_alike_183 (by decide) ?_
                  refine lv_istore (lv' := [(7, .int ((if hasB s (nI k) = true then alM r hd i s f c k 10 else 0))), (0, .ref (o 0)), (1, .int (i)), (2, .int (s)), (3, .int (hd)), (4, .int (f)), (5, .int (c)), (6, .int (yNext r)), (8, .int (nI k)), (9, .int ((if hasB s (nI k) = true then alM r hd i s f c k 10 else 0))), (10, .int (nI n))]) hx hb dX9_alike_188 hl (by decide) rfl (fun ls hl => ?_)
                  refine lv_iinc (v := nI (k + 1)) (lv' := [(8, .int (nI (k + 1))), (7, .int ((if hasB s (nI k) = true then alM r hd i s f c k 10 else 0))), (0, .ref (o 0)), (1, .int (i)), (2, .int (s)), (3, .int (hd)), (4, .int (f)), (5, .int (c)), (6, .int (yNext r)), (9, .int ((if hasB s (nI k) = true then alM r hd i s f c k 10 else 0))), (10, .int (nI n))]) hx hb dX9_alike_190 hl (k := 8) rfl (inc_nI k) (by decide) rfl (fun ls hl => ?_)
                  refine lv_goto (tgt := 15) hx hb dX9_alike_193 (by decide) ?_
                  have e7 : alK r hd i s f c (k + 1) = (if hasB s (nI k) = true then alM r hd i s f c k 10 else 0) := by first | exact if_pos c5' | exact if_neg c5' | exact if_pos c5 | exact if_neg c5 | exact if_pos c4 | exact if_neg c4
                  have hl : lv_has ls 13 [(8, .int (nI (k + 1))), (7, .int (alK r hd i s f c (k + 1))), (0, .ref (o 0)), (1, .int (i)), (2, .int (s)), (3, .int (hd)), (4, .int (f)), (5, .int (c)), (6, .int (yNext r)), (9, .int ((if hasB s (nI k) = true then alM r hd i s f c k 10 else 0))), (10, .int (nI n))] := by rw [e7]; exact hl
                  exact ih15 (k + 1) (by omega) (by omega) _ (lv_sub hl [2, 3, 4, 5, 6, 7, 8, 1, 0] rfl)
              · skip
                have c4 := b2i_1 c4
                refine lv_iload_n hx hb dX9_alike_44 rfl (lv_at hl 3 rfl) ?_
                refine lv_if_eq (tgt := 71) hx hb dX9_alike_45 (by decide) (fun c6 => ?_) (fun c6 => ?_)
                · skip
                  refine lv_iload hx hb dX9_alike_71 (lv_at hl 8 rfl) ?_
                  refine lv_aload_n hx hb dX9_alike_73 rfl (lv_at hl 0 rfl) ?_
                  refine kget hC.1 hK (kP_app.mp hP).1 0 rfl rfl in_9 3 (by decide) (gw_in m_963 rfl) rfl dX9_alike_74 ?_
                  refine lv_bipush (v := 21) hx hb dX9_alike_77 rfl ?_
                  refine lv_iload_n hx hb dX9_alike_79 rfl (lv_at hl 1 rfl) ?_
                  refine lv_iadd hx hb dX9_alike_80 ?_
                  refine kald (v := r (21 + cl i)) hC.1 hK (kP_app.mp (kP_app.mp hP).2).1 0 rfl (ix_in (K := 21) hi (by omega) (by omega)) (congrArg r (show cl (21 + i) = 21 + cl i from ix_cl (K := 21) hi (by omega))) dX9_alike_81 ?_
                  refine lv_iload hx hb dX9_alike_82 (lv_at hl 5 rfl) ?_
                  refine lv_iload hx hb dX9_alike_84 (lv_at hl 4 rfl) ?_
                  refine lv_iload hx hb dX9_alike_86 (lv_at hl 6 rfl) ?_
                  refine ro_i (run_S (As := [.int (nI k), .int (r (21 + cl i)), .int (c), .int (f), .int (yNext r)]) (rest := []) hC.1 ckX9_cracksBy (kX9_cracksBy l (nI k) (r (21 + cl i)) c f (yNext r)) (gw_in m_1157 rfl) (fb_nil _) (fun _ _ _ => trivial) ⟨rfl, rfl, Nat.le_of_ble_eq_true rfl, Nat.le_of_ble_eq_true rfl⟩ rfl hl.1 rfl (Nat.le_of_ble_eq_true rfl) dX9_alike_88 ⟨Nat.le_of_ble_eq_true rfl, Nat.le_of_ble_eq_true rfl⟩) ?_
                  refine lv_istore (lv' := [(11, .int (crk (nI k) (r (21 + cl i)) c f (yNext r))), (0, .ref (o 0)), (1, .int (i)), (2, .int (s)), (3, .int (hd)), (4, .int (f)), (5, .int (c)), (6, .int (yNext r)), (7, .int (alK r hd i s f c k)), (8, .int (nI k)), (9, .int (alM r hd i s f c k n)), (10, .int (nI n))]) hx hb dX9_alike_91 hl (by decide) rfl (fun ls hl => ?_)
                  refine lv_iload_n hx hb dX9_alike_93 rfl (lv_at hl 4 rfl) ?_
                  refine lv_if_eq (tgt := 120) hx hb dX9_alike_94 (by decide) (fun c7 => ?_) (fun c7 => ?_)
                  · skip
                    refine lv_iload hx hb dX9_alike_120 (lv_at hl 11 rfl) ?_
                    refine lv_aload_n hx hb dX9_alike_122 rfl (lv_at hl 1 rfl) ?_
                    refine kget hC.1 hK (kP_app.mp hP).1 0 rfl rfl in_9 3 (by decide) (gw_in m_963 rfl) rfl dX9_alike_123 ?_
                    refine lv_bipush (v := 21) hx hb dX9_alike_126 rfl ?_
                    refine lv_iload_n hx hb dX9_alike_128 rfl (lv_at hl 2 rfl) ?_
                    refine lv_iadd hx hb dX9_alike_129 ?_
                    refine kald (v := r (21 + cl i)) hC.1 hK (kP_app.mp (kP_app.mp hP).2).1 0 rfl (ix_in (K := 21) hi (by omega) (by omega)) (congrArg r (show cl (21 + i) = 21 + cl i from ix_cl (K := 21) hi (by omega))) dX9_alike_130 ?_
                    refine lv_iload hx hb dX9_alike_131 (lv_at hl 6 rfl) ?_
                    refine lv_iload hx hb dX9_alike_133 (lv_at hl 5 rfl) ?_
                    refine lv_iload hx hb dX9_alike_135 (lv_at hl 7 rfl) ?_
                    refine ro_i (run_S (As := [.int (nI n), .int (r (21 + cl i)), .int (c), .int (f), .int (yNext r)]) (rest := []) hC.1 ckX9_cracksBy (kX9_cracksBy l (nI n) (r (21 + cl i)) c f (yNext r)) (gw_in m_1157 rfl) (fb_nil _) (fun _ _ _ => trivial) ⟨rfl, rfl, Nat.le_of_ble_eq_true rfl, Nat.le_of_ble_eq_true rfl⟩ rfl hl.1 rfl (Nat.le_of_ble_eq_true rfl) dX9_alike_137 ⟨Nat.le_of_ble_eq_true rfl, Nat.le_of_ble_eq_true rfl⟩) ?_
                    refine lv_istore (lv' := [(12, .int (crk (nI n) (r (21 + cl i)) c f (yNext r))), (11, .int (crk (nI k) (r (21 + cl i)) c f (yNext r))), (0, .ref (o 0)), (1, .int (i)), (2, .int (s)), (3, .int (hd)), (4, .int (f)), (5, .int (c)), (6, .int (yNext r)), (7, .int (alK r hd i s f c k)), (8, .int (nI k)), (9, .int (alM r hd i s f c k n)), (10, .int (nI n))]) hx hb dX9_alike_140 hl (by decide) rfl (fun ls hl => ?_)
                    refine lv_iload hx hb dX9_alike_142 (lv_at hl 11 rfl) ?_
                    refine lv_iload_n hx hb dX9_alike_144 rfl (lv_at hl 4 rfl) ?_
                    refine lv_iload hx hb dX9_alike_145 (lv_at hl 12 rfl) ?_
                    refine ro_i (run_S (As := [.int (s), .int (nI n)]) (rest := [.int (alM r hd i s f c k n)]) hC.1 ckX9_has (kX9_has l s (nI n)) (gw_in m_1225 rfl) (fb_nil _) (fun _ _ _ => trivial) ⟨rfl, rfl, Nat.le_of_ble_eq_true rfl, Nat.le_of_ble_eq_true rfl⟩ rfl hl.1 rfl (Nat.le_of_ble_eq_true rfl) dX9_alike_147 ⟨Nat.le_of_ble_eq_true rfl, Nat.le_of_ble_eq_true rfl⟩) ?_
                    refine lv_if_eq (tgt := 164) hx hb dX9_alike_150 (by decide) (fun c8 => ?_) (fun c8 => ?_)
                    · skip
                      have c8 := b2i_0 c8
                      refine lv_iconst (v := 0) hx hb dX9_alike_164 rfl ?_
                      refine lv_iadd hx hb dX9_alike_165 ?_
                      refine lv_istore (lv' := [(9, .int ((alM r hd i s f c k n) + 0)), (12, .int (crk (nI n) (r (21 + cl i)) c f (yNext r))), (11, .int (crk (nI k) (r (21 + cl i)) c f (yNext r))), (0, .ref (o 0)), (1, .int (i)), (2, .int (s)), (3, .int (hd)), (4, .int (f)), (5, .int (c)), (6, .int (yNext r)), (7, .int (alK r hd i s f c k)), (8, .int (nI k)), (10, .int (nI n))]) hx hb dX9_alike_166 hl (by decide) rfl (fun ls hl => ?_)
                      refine lv_iinc (v := nI (n + 1)) (lv' := [(10, .int (nI (n + 1))), (9, .int ((alM r hd i s f c k n) + 0)), (12, .int (crk (nI n) (r (21 + cl i)) c f (yNext r))), (11, .int (crk (nI k) (r (21 + cl i)) c f (yNext r))), (0, .ref (o 0)), (1, .int (i)), (2, .int (s)), (3, .int (hd)), (4, .int (f)), (5, .int (c)), (6, .int (yNext r)), (7, .int (alK r hd i s f c k)), (8, .int (nI k))]) hx hb dX9_alike_168 hl (k := 12) rfl (inc_nI n) (by decide) rfl (fun ls hl => ?_)
                      refine lv_goto (tgt := 28) hx hb dX9_alike_171 (by decide) ?_
                      have e9 : alM r hd i s f c k (n + 1) = (alM r hd i s f c k n) + 0 := by first | contradiction | simp [alM, lkF, hn, hz, c2, c2', c4, c6, c7, c8]
                      have hl : lv_has ls 13 [(10, .int (nI (n + 1))), (9, .int (alM r hd i s f c k (n + 1))), (12, .int (crk (nI n) (r (21 + cl i)) c f (yNext r))), (11, .int (crk (nI k) (r (21 + cl i)) c f (yNext r))), (0, .ref (o 0)), (1, .int (i)), (2, .int (s)), (3, .int (hd)), (4, .int (f)), (5, .int (c)), (6, .int (yNext r)), (7, .int (alK r hd i s f c k)), (8, .int (nI k))] := by rw [e9]; exact hl
                      exact ih28 (n + 1) (by omega) (by omega) (Or.inr (by assumption)) _ (lv_sub hl [4, 5, 6, 7, 8, 9, 10, 11, 12, 1, 0] rfl)
                    · skip
                      have c8 := b2i_1 c8
                      refine lv_iload hx hb dX9_alike_153 (lv_at hl 1 rfl) ?_
                      refine lv_iload hx hb dX9_alike_155 (lv_at hl 0 rfl) ?_
                      refine lv_icmp_ne (tgt := 164) hx hb dX9_alike_157 (by decide) (fun c9 => ?_) (fun c9 => ?_)
                      · skip
                        refine lv_iconst (v := 0) hx hb dX9_alike_164 rfl ?_
                        refine lv_iadd hx hb dX9_alike_165 ?_
                        refine lv_istore (lv' := [(9, .int ((alM r hd i s f c k n) + 0)), (12, .int (crk (nI n) (r (21 + cl i)) c f (yNext r))), (11, .int (crk (nI k) (r (21 + cl i)) c f (yNext r))), (0, .ref (o 0)), (1, .int (i)), (2, .int (s)), (3, .int (hd)), (4, .int (f)), (5, .int (c)), (6, .int (yNext r)), (7, .int (alK r hd i s f c k)), (8, .int (nI k)), (10, .int (nI n))]) hx hb dX9_alike_166 hl (by decide) rfl (fun ls hl => ?_)
                        refine lv_iinc (v := nI (n + 1)) (lv' := [(10, .int (nI (n + 1))), (9, .int ((alM r hd i s f c k n) + 0)), (12, .int (crk (nI n) (r (21 + cl i)) c f (yNext r))), (11, .int (crk (nI k) (r (21 + cl i)) c f (yNext r))), (0, .ref (o 0)), (1, .int (i)), (2, .int (s)), (3, .int (hd)), (4, .int (f)), (5, .int (c)), (6, .int (yNext r)), (7, .int (alK r hd i s f c k)), (8, .int (nI k))]) hx hb dX9_alike_168 hl (k := 12) rfl (inc_nI n) (by decide) rfl (fun ls hl => ?_)
                        refine lv_goto (tgt := 28) hx hb dX9_alike_171 (by decide) ?_
                        have e9 : alM r hd i s f c k (n + 1) = (alM r hd i s f c k n) + 0 := by first | contradiction | simp [alM, lkF, hn, hz, c2, c2', c4, c6, c7, c8, c9]
                        have hl : lv_has ls 13 [(10, .int (nI (n + 1))), (9, .int (alM r hd i s f c k (n + 1))), (12, .int (crk (nI n) (r (21 + cl i)) c f (yNext r))), (11, .int (crk (nI k) (r (21 + cl i)) c f (yNext r))), (0, .ref (o 0)), (1, .int (i)), (2, .int (s)), (3, .int (hd)), (4, .int (f)), (5, .int (c)), (6, .int (yNext r)), (7, .int (alK r hd i s f c k)), (8, .int (nI k))] := by rw [e9]; exact hl
                        exact ih28 (n + 1) (by omega) (by omega) (Or.inr (by assumption)) _ (lv_sub hl [4, 5, 6, 7, 8, 9, 10, 11, 12, 1, 0] rfl)
                      · skip
                        refine lv_iconst (v := 1) hx hb dX9_alike_160 rfl ?_
                        refine lv_goto (tgt := 165) hx hb dX9_alike_161 (by decide) ?_
                        refine lv_iadd hx hb dX9_alike_165 ?_
                        refine lv_istore (lv' := [(9, .int ((alM r hd i s f c k n) + 1)), (12, .int (crk (nI n) (r (21 + cl i)) c f (yNext r))), (11, .int (crk (nI k) (r (21 + cl i)) c f (yNext r))), (0, .ref (o 0)), (1, .int (i)), (2, .int (s)), (3, .int (hd)), (4, .int (f)), (5, .int (c)), (6, .int (yNext r)), (7, .int (alK r hd i s f c k)), (8, .int (nI k)), (10, .int (nI n))]) hx hb dX9_alike_166 hl (by decide) rfl (fun ls hl => ?_)
                        refine lv_iinc (v := nI (n + 1)) (lv' := [(10, .int (nI (n + 1))), (9, .int ((alM r hd i s f c k n) + 1)), (12, .int (crk (nI n) (r (21 + cl i)) c f (yNext r))), (11, .int (crk (nI k) (r (21 + cl i)) c f (yNext r))), (0, .ref (o 0)), (1, .int (i)), (2, .int (s)), (3, .int (hd)), (4, .int (f)), (5, .int (c)), (6, .int (yNext r)), (7, .int (alK r hd i s f c k)), (8, .int (nI k))]) hx hb dX9_alike_168 hl (k := 12) rfl (inc_nI n) (by decide) rfl (fun ls hl => ?_)
                        refine lv_goto (tgt := 28) hx hb dX9_alike_171 (by decide) ?_
                        have e9 : alM r hd i s f c k (n + 1) = (alM r hd i s f c k n) + 1 := by first | contradiction | simp [alM, lkF, hn, hz, c2, c2', c4, c6, c7, c8, c9]
                        have hl : lv_has ls 13 [(10, .int (nI (n + 1))), (9, .int (alM r hd i s f c k (n + 1))), (12, .int (crk (nI n) (r (21 + cl i)) c f (yNext r))), (11, .int (crk (nI k) (r (21 + cl i)) c f (yNext r))), (0, .ref (o 0)), (1, .int (i)), (2, .int (s)), (3, .int (hd)), (4, .int (f)), (5, .int (c)), (6, .int (yNext r)), (7, .int (alK r hd i s f c k)), (8, .int (nI k))] := by rw [e9]; exact hl
                        exact ih28 (n + 1) (by omega) (by omega) (Or.inr (by assumption)) _ (lv_sub hl [4, 5, 6, 7, 8, 9, 10, 11, 12, 1, 0] rfl)
                  · skip
                    refine lv_aload_n hx hb dX9_alike_97 rfl (lv_at hl 1 rfl) ?_
                    refine kget hC.1 hK (kP_app.mp hP).1 0 rfl rfl in_9 3 (by decide) (gw_in m_963 rfl) rfl dX9_alike_98 ?_
                    refine lv_bipush (v := 15) hx hb dX9_alike_101 rfl ?_
                    refine lv_iload_n hx hb dX9_alike_103 rfl (lv_at hl 2 rfl) ?_
                    refine lv_iadd hx hb dX9_alike_104 ?_
                    refine kald (v := r (15 + cl i)) hC.1 hK (kP_app.mp (kP_app.mp hP).2).1 0 rfl (ix_in (K := 15) hi (by omega) (by omega)) (congrArg r (show cl (15 + i) = 15 + cl i from ix_cl (K := 15) hi (by omega))) dX9_alike_105 ?_
                    refine lv_iload hx hb dX9_alike_106 (lv_at hl 11 rfl) ?_
                    refine lv_iload hx hb dX9_alike_108 (lv_at hl 6 rfl) ?_
                    refine lv_iload hx hb dX9_alike_110 (lv_at hl 5 rfl) ?_
                    refine lv_iload hx hb dX9_alike_112 (lv_at hl 7 rfl) ?_
                    refine ro_i (run_S (As := [.int (r (15 + cl i)), .int (nI n), .int (c), .int (f), .int (yNext r)]) (rest := []) hC.1 ckX9_cracksBy (kX9_cracksBy l (r (15 + cl i)) (nI n) c f (yNext r)) (gw_in m_1157 rfl) (fb_nil _) (fun _ _ _ => trivial) ⟨rfl, rfl, Nat.le_of_ble_eq_true rfl, Nat.le_of_ble_eq_true rfl⟩ rfl hl.1 rfl (Nat.le_of_ble_eq_true rfl) dX9_alike_114 ⟨Nat.le_of_ble_eq_true rfl, Nat.le_of_ble_eq_true rfl⟩) ?_
                    refine lv_goto (tgt := 140) hx hb dX9_alike_117 (by decide) ?_
                    refine lv_istore (lv' := [(12, .int (crk (r (15 + cl i)) (nI n) c f (yNext r))), (11, .int (crk (nI k) (r (21 + cl i)) c f (yNext r))), (0, .ref (o 0)), (1, .int (i)), (2, .int (s)), (3, .int (hd)), (4, .int (f)), (5, .int (c)), (6, .int (yNext r)), (7, .int (alK r hd i s f c k)), (8, .int (nI k)), (9, .int (alM r hd i s f c k n)), (10, .int (nI n))]) hx hb dX9_alike_140 hl (by decide) rfl (fun ls hl => ?_)
                    refine lv_iload hx hb dX9_alike_142 (lv_at hl 11 rfl) ?_
                    refine lv_iload_n hx hb dX9_alike_144 rfl (lv_at hl 4 rfl) ?_
                    refine lv_iload hx hb dX9_alike_145 (lv_at hl 12 rfl) ?_
                    refine ro_i (run_S (As := [.int (s), .int (nI n)]) (rest := [.int (alM r hd i s f c k n)]) hC.1 ckX9_has (kX9_has l s (nI n)) (gw_in m_1225 rfl) (fb_nil _) (fun _ _ _ => trivial) ⟨rfl, rfl, Nat.le_of_ble_eq_true rfl, Nat.le_of_ble_eq_true rfl⟩ rfl hl.1 rfl (Nat.le_of_ble_eq_true rfl) dX9_alike_147 ⟨Nat.le_of_ble_eq_true rfl, Nat.le_of_ble_eq_true rfl⟩) ?_
                    refine lv_if_eq (tgt := 164) hx hb dX9_alike_150 (by decide) (fun c10 => ?_) (fun c10 => ?_)
                    · skip
                      have c10 := b2i_0 c10
                      refine lv_iconst (v := 0) hx hb dX9_alike_164 rfl ?_
                      refine lv_iadd hx hb dX9_alike_165 ?_
                      refine lv_istore (lv' := [(9, .int ((alM r hd i s f c k n) + 0)), (12, .int (crk (r (15 + cl i)) (nI n) c f (yNext r))), (11, .int (crk (nI k) (r (21 + cl i)) c f (yNext r))), (0, .ref (o 0)), (1, .int (i)), (2, .int (s)), (3, .int (hd)), (4, .int (f)), (5, .int (c)), (6, .int (yNext r)), (7, .int (alK r hd i s f c k)), (8, .int (nI k)), (10, .int (nI n))]) hx hb dX9_alike_166 hl (by decide) rfl (fun ls hl => ?_)
                      refine lv_iinc (v := nI (n + 1)) (lv' := [(10, .int (nI (n + 1))), (9, .int ((alM r hd i s f c k n) + 0)), (12, .int (crk (r (15 + cl i)) (nI n) c f (yNext r))), (11, .int (crk (nI k) (r (21 + cl i)) c f (yNext r))), (0, .ref (o 0)), (1, .int (i)), (2, .int (s)), (3, .int (hd)), (4, .int (f)), (5, .int (c)), (6, .int (yNext r)), (7, .int (alK r hd i s f c k)), (8, .int (nI k))]) hx hb dX9_alike_168 hl (k := 12) rfl (inc_nI n) (by decide) rfl (fun ls hl => ?_)
                      refine lv_goto (tgt := 28) hx hb dX9_alike_171 (by decide) ?_
                      have e9 : alM r hd i s f c k (n + 1) = (alM r hd i s f c k n) + 0 := by first | contradiction | simp [alM, lkF, hn, hz, c2, c2', c4, c6, c7, c10]
                      have hl : lv_has ls 13 [(10, .int (nI (n + 1))), (9, .int (alM r hd i s f c k (n + 1))), (12, .int (crk (r (15 + cl i)) (nI n) c f (yNext r))), (11, .int (crk (nI k) (r (21 + cl i)) c f (yNext r))), (0, .ref (o 0)), (1, .int (i)), (2, .int (s)), (3, .int (hd)), (4, .int (f)), (5, .int (c)), (6, .int (yNext r)), (7, .int (alK r hd i s f c k)), (8, .int (nI k))] := by rw [e9]; exact hl
                      exact ih28 (n + 1) (by omega) (by omega) (Or.inr (by assumption)) _ (lv_sub hl [4, 5, 6, 7, 8, 9, 10, 11, 12, 1, 0] rfl)
                    · skip
                      have c10 := b2i_1 c10
                      refine lv_iload hx hb dX9_alike_153 (lv_at hl 1 rfl) ?_
                      refine lv_iload hx hb dX9_alike_155 (lv_at hl 0 rfl) ?_
                      refine lv_icmp_ne (tgt := 164) hx hb dX9_alike_157 (by decide) (fun c11 => ?_) (fun c11 => ?_)
                      · skip
                        refine lv_iconst (v := 0) hx hb dX9_alike_164 rfl ?_
                        refine lv_iadd hx hb dX9_alike_165 ?_
                        refine lv_istore (lv' := [(9, .int ((alM r hd i s f c k n) + 0)), (12, .int (crk (r (15 + cl i)) (nI n) c f (yNext r))), (11, .int (crk (nI k) (r (21 + cl i)) c f (yNext r))), (0, .ref (o 0)), (1, .int (i)), (2, .int (s)), (3, .int (hd)), (4, .int (f)), (5, .int (c)), (6, .int (yNext r)), (7, .int (alK r hd i s f c k)), (8, .int (nI k)), (10, .int (nI n))]) hx hb dX9_alike_166 hl (by decide) rfl (fun ls hl => ?_)
                        refine lv_iinc (v := nI (n + 1)) (lv' := [(10, .int (nI (n + 1))), (9, .int ((alM r hd i s f c k n) + 0)), (12, .int (crk (r (15 + cl i)) (nI n) c f (yNext r))), (11, .int (crk (nI k) (r (21 + cl i)) c f (yNext r))), (0, .ref (o 0)), (1, .int (i)), (2, .int (s)), (3, .int (hd)), (4, .int (f)), (5, .int (c)), (6, .int (yNext r)), (7, .int (alK r hd i s f c k)), (8, .int (nI k))]) hx hb dX9_alike_168 hl (k := 12) rfl (inc_nI n) (by decide) rfl (fun ls hl => ?_)
                        refine lv_goto (tgt := 28) hx hb dX9_alike_171 (by decide) ?_
                        have e9 : alM r hd i s f c k (n + 1) = (alM r hd i s f c k n) + 0 := by first | contradiction | simp [alM, lkF, hn, hz, c2, c2', c4, c6, c7, c10, c11]
                        have hl : lv_has ls 13 [(10, .int (nI (n + 1))), (9, .int (alM r hd i s f c k (n + 1))), (12, .int (crk (r (15 + cl i)) (nI n) c f (yNext r))), (11, .int (crk (nI k) (r (21 + cl i)) c f (yNext r))), (0, .ref (o 0)), (1, .int (i)), (2, .int (s)), (3, .int (hd)), (4, .int (f)), (5, .int (c)), (6, .int (yNext r)), (7, .int (alK r hd i s f c k)), (8, .int (nI k))] := by rw [e9]; exact hl
                        exact ih28 (n + 1) (by omega) (by omega) (Or.inr (by assumption)) _ (lv_sub hl [4, 5, 6, 7, 8, 9, 10, 11, 12, 1, 0] rfl)
                      · skip
                        refine lv_iconst (v := 1) hx hb dX9_alike_160 rfl ?_
                        refine lv_goto (tgt := 165) hx hb dX9_alike_161 (by decide) ?_
                        refine lv_iadd hx hb dX9_alike_165 ?_
                        refine lv_istore (lv' := [(9, .int ((alM r hd i s f c k n) + 1)), (12, .int (crk (r (15 + cl i)) (nI n) c f (yNext r))), (11, .int (crk (nI k) (r (21 + cl i)) c f (yNext r))), (0, .ref (o 0)), (1, .int (i)), (2, .int (s)), (3, .int (hd)), (4, .int (f)), (5, .int (c)), (6, .int (yNext r)), (7, .int (alK r hd i s f c k)), (8, .int (nI k)), (10, .int (nI n))]) hx hb dX9_alike_166 hl (by decide) rfl (fun ls hl => ?_)
                        refine lv_iinc (v := nI (n + 1)) (lv' := [(10, .int (nI (n + 1))), (9, .int ((alM r hd i s f c k n) + 1)), (12, .int (crk (r (15 + cl i)) (nI n) c f (yNext r))), (11, .int (crk (nI k) (r (21 + cl i)) c f (yNext r))), (0, .ref (o 0)), (1, .int (i)), (2, .int (s)), (3, .int (hd)), (4, .int (f)), (5, .int (c)), (6, .int (yNext r)), (7, .int (alK r hd i s f c k)), (8, .int (nI k))]) hx hb dX9_alike_168 hl (k := 12) rfl (inc_nI n) (by decide) rfl (fun ls hl => ?_)
                        refine lv_goto (tgt := 28) hx hb dX9_alike_171 (by decide) ?_
                        have e9 : alM r hd i s f c k (n + 1) = (alM r hd i s f c k n) + 1 := by first | contradiction | simp [alM, lkF, hn, hz, c2, c2', c4, c6, c7, c10, c11]
                        have hl : lv_has ls 13 [(10, .int (nI (n + 1))), (9, .int (alM r hd i s f c k (n + 1))), (12, .int (crk (r (15 + cl i)) (nI n) c f (yNext r))), (11, .int (crk (nI k) (r (21 + cl i)) c f (yNext r))), (0, .ref (o 0)), (1, .int (i)), (2, .int (s)), (3, .int (hd)), (4, .int (f)), (5, .int (c)), (6, .int (yNext r)), (7, .int (alK r hd i s f c k)), (8, .int (nI k))] := by rw [e9]; exact hl
                        exact ih28 (n + 1) (by omega) (by omega) (Or.inr (by assumption)) _ (lv_sub hl [4, 5, 6, 7, 8, 9, 10, 11, 12, 1, 0] rfl)
                · skip
                  refine lv_aload_n hx hb dX9_alike_48 rfl (lv_at hl 0 rfl) ?_
                  refine kget hC.1 hK (kP_app.mp hP).1 0 rfl rfl in_9 3 (by decide) (gw_in m_963 rfl) rfl dX9_alike_49 ?_
                  refine lv_bipush (v := 15) hx hb dX9_alike_52 rfl ?_
                  refine lv_iload_n hx hb dX9_alike_54 rfl (lv_at hl 1 rfl) ?_
                  refine lv_iadd hx hb dX9_alike_55 ?_
                  refine kald (v := r (15 + cl i)) hC.1 hK (kP_app.mp (kP_app.mp hP).2).1 0 rfl (ix_in (K := 15) hi (by omega) (by omega)) (congrArg r (show cl (15 + i) = 15 + cl i from ix_cl (K := 15) hi (by omega))) dX9_alike_56 ?_
                  refine lv_iload hx hb dX9_alike_57 (lv_at hl 8 rfl) ?_
                  refine lv_iload hx hb dX9_alike_59 (lv_at hl 5 rfl) ?_
                  refine lv_iload hx hb dX9_alike_61 (lv_at hl 4 rfl) ?_
                  refine lv_iload hx hb dX9_alike_63 (lv_at hl 6 rfl) ?_
                  refine ro_i (run_S (As := [.int (r (15 + cl i)), .int (nI k), .int (c), .int (f), .int (yNext r)]) (rest := []) hC.1 ckX9_cracksBy (kX9_cracksBy l (r (15 + cl i)) (nI k) c f (yNext r)) (gw_in m_1157 rfl) (fb_nil _) (fun _ _ _ => trivial) ⟨rfl, rfl, Nat.le_of_ble_eq_true rfl, Nat.le_of_ble_eq_true rfl⟩ rfl hl.1 rfl (Nat.le_of_ble_eq_true rfl) dX9_alike_65 ⟨Nat.le_of_ble_eq_true rfl, Nat.le_of_ble_eq_true rfl⟩) ?_
                  refine lv_goto (tgt := 91) hx hb dX9_alike_68 (by decide) ?_
                  refine lv_istore (lv' := [(11, .int (crk (r (15 + cl i)) (nI k) c f (yNext r))), (0, .ref (o 0)), (1, .int (i)), (2, .int (s)), (3, .int (hd)), (4, .int (f)), (5, .int (c)), (6, .int (yNext r)), (7, .int (alK r hd i s f c k)), (8, .int (nI k)), (9, .int (alM r hd i s f c k n)), (10, .int (nI n))]) hx hb dX9_alike_91 hl (by decide) rfl (fun ls hl => ?_)
                  refine lv_iload_n hx hb dX9_alike_93 rfl (lv_at hl 4 rfl) ?_
                  refine lv_if_eq (tgt := 120) hx hb dX9_alike_94 (by decide) (fun c12 => ?_) (fun c12 => ?_)
                  · skip
                    refine lv_iload hx hb dX9_alike_120 (lv_at hl 11 rfl) ?_
                    refine lv_aload_n hx hb dX9_alike_122 rfl (lv_at hl 1 rfl) ?_
                    refine kget hC.1 hK (kP_app.mp hP).1 0 rfl rfl in_9 3 (by decide) (gw_in m_963 rfl) rfl dX9_alike_123 ?_
                    refine lv_bipush (v := 21) hx hb dX9_alike_126 rfl ?_
                    refine lv_iload_n hx hb dX9_alike_128 rfl (lv_at hl 2 rfl) ?_
                    refine lv_iadd hx hb dX9_alike_129 ?_
                    refine kald (v := r (21 + cl i)) hC.1 hK (kP_app.mp (kP_app.mp hP).2).1 0 rfl (ix_in (K := 21) hi (by omega) (by omega)) (congrArg r (show cl (21 + i) = 21 + cl i from ix_cl (K := 21) hi (by omega))) dX9_alike_130 ?_
                    refine lv_iload hx hb dX9_alike_131 (lv_at hl 6 rfl) ?_
                    refine lv_iload hx hb dX9_alike_133 (lv_at hl 5 rfl) ?_
                    refine lv_iload hx hb dX9_alike_135 (lv_at hl 7 rfl) ?_
                    refine ro_i (run_S (As := [.int (nI n), .int (r (21 + cl i)), .int (c), .int (f), .int (yNext r)]) (rest := []) hC.1 ckX9_cracksBy (kX9_cracksBy l (nI n) (r (21 + cl i)) c f (yNext r)) (gw_in m_1157 rfl) (fb_nil _) (fun _ _ _ => trivial) ⟨rfl, rfl, Nat.le_of_ble_eq_true rfl, Nat.le_of_ble_eq_true rfl⟩ rfl hl.1 rfl (Nat.le_of_ble_eq_true rfl) dX9_alike_137 ⟨Nat.le_of_ble_eq_true rfl, Nat.le_of_ble_eq_true rfl⟩) ?_
                    refine lv_istore (lv' := [(12, .int (crk (nI n) (r (21 + cl i)) c f (yNext r))), (11, .int (crk (r (15 + cl i)) (nI k) c f (yNext r))), (0, .ref (o 0)), (1, .int (i)), (2, .int (s)), (3, .int (hd)), (4, .int (f)), (5, .int (c)), (6, .int (yNext r)), (7, .int (alK r hd i s f c k)), (8, .int (nI k)), (9, .int (alM r hd i s f c k n)), (10, .int (nI n))]) hx hb dX9_alike_140 hl (by decide) rfl (fun ls hl => ?_)
                    refine lv_iload hx hb dX9_alike_142 (lv_at hl 11 rfl) ?_
                    refine lv_iload_n hx hb dX9_alike_144 rfl (lv_at hl 4 rfl) ?_
                    refine lv_iload hx hb dX9_alike_145 (lv_at hl 12 rfl) ?_
                    refine ro_i (run_S (As := [.int (s), .int (nI n)]) (rest := [.int (alM r hd i s f c k n)]) hC.1 ckX9_has (kX9_has l s (nI n)) (gw_in m_1225 rfl) (fb_nil _) (fun _ _ _ => trivial) ⟨rfl, rfl, Nat.le_of_ble_eq_true rfl, Nat.le_of_ble_eq_true rfl⟩ rfl hl.1 rfl (Nat.le_of_ble_eq_true rfl) dX9_alike_147 ⟨Nat.le_of_ble_eq_true rfl, Nat.le_of_ble_eq_true rfl⟩) ?_
                    refine lv_if_eq (tgt := 164) hx hb dX9_alike_150 (by decide) (fun c13 => ?_) (fun c13 => ?_)
                    · skip
                      have c13 := b2i_0 c13
                      refine lv_iconst (v := 0) hx hb dX9_alike_164 rfl ?_
                      refine lv_iadd hx hb dX9_alike_165 ?_
                      refine lv_istore (lv' := [(9, .int ((alM r hd i s f c k n) + 0)), (12, .int (crk (nI n) (r (21 + cl i)) c f (yNext r))), (11, .int (crk (r (15 + cl i)) (nI k) c f (yNext r))), (0, .ref (o 0)), (1, .int (i)), (2, .int (s)), (3, .int (hd)), (4, .int (f)), (5, .int (c)), (6, .int (yNext r)), (7, .int (alK r hd i s f c k)), (8, .int (nI k)), (10, .int (nI n))]) hx hb dX9_alike_166 hl (by decide) rfl (fun ls hl => ?_)
                      refine lv_iinc (v := nI (n + 1)) (lv' := [(10, .int (nI (n + 1))), (9, .int ((alM r hd i s f c k n) + 0)), (12, .int (crk (nI n) (r (21 + cl i)) c f (yNext r))), (11, .int (crk (r (15 + cl i)) (nI k) c f (yNext r))), (0, .ref (o 0)), (1, .int (i)), (2, .int (s)), (3, .int (hd)), (4, .int (f)), (5, .int (c)), (6, .int (yNext r)), (7, .int (alK r hd i s f c k)), (8, .int (nI k))]) hx hb dX9_alike_168 hl (k := 12) rfl (inc_nI n) (by decide) rfl (fun ls hl => ?_)
                      refine lv_goto (tgt := 28) hx hb dX9_alike_171 (by decide) ?_
                      have e9 : alM r hd i s f c k (n + 1) = (alM r hd i s f c k n) + 0 := by first | contradiction | simp [alM, lkF, hn, hz, c2, c2', c4, c6, c12, c13]
                      have hl : lv_has ls 13 [(10, .int (nI (n + 1))), (9, .int (alM r hd i s f c k (n + 1))), (12, .int (crk (nI n) (r (21 + cl i)) c f (yNext r))), (11, .int (crk (r (15 + cl i)) (nI k) c f (yNext r))), (0, .ref (o 0)), (1, .int (i)), (2, .int (s)), (3, .int (hd)), (4, .int (f)), (5, .int (c)), (6, .int (yNext r)), (7, .int (alK r hd i s f c k)), (8, .int (nI k))] := by rw [e9]; exact hl
                      exact ih28 (n + 1) (by omega) (by omega) (Or.inr (by assumption)) _ (lv_sub hl [4, 5, 6, 7, 8, 9, 10, 11, 12, 1, 0] rfl)
                    · skip
                      have c13 := b2i_1 c13
                      refine lv_iload hx hb dX9_alike_153 (lv_at hl 1 rfl) ?_
                      refine lv_iload hx hb dX9_alike_155 (lv_at hl 0 rfl) ?_
                      refine lv_icmp_ne (tgt := 164) hx hb dX9_alike_157 (by decide) (fun c14 => ?_) (fun c14 => ?_)
                      · skip
                        refine lv_iconst (v := 0) hx hb dX9_alike_164 rfl ?_
                        refine lv_iadd hx hb dX9_alike_165 ?_
                        refine lv_istore (lv' := [(9, .int ((alM r hd i s f c k n) + 0)), (12, .int (crk (nI n) (r (21 + cl i)) c f (yNext r))), (11, .int (crk (r (15 + cl i)) (nI k) c f (yNext r))), (0, .ref (o 0)), (1, .int (i)), (2, .int (s)), (3, .int (hd)), (4, .int (f)), (5, .int (c)), (6, .int (yNext r)), (7, .int (alK r hd i s f c k)), (8, .int (nI k)), (10, .int (nI n))]) hx hb dX9_alike_166 hl (by decide) rfl (fun ls hl => ?_)
                        refine lv_iinc (v := nI (n + 1)) (lv' := [(10, .int (nI (n + 1))), (9, .int ((alM r hd i s f c k n) + 0)), (12, .int (crk (nI n) (r (21 + cl i)) c f (yNext r))), (11, .int (crk (r (15 + cl i)) (nI k) c f (yNext r))), (0, .ref (o 0)), (1, .int (i)), (2, .int (s)), (3, .int (hd)), (4, .int (f)), (5, .int (c)), (6, .int (yNext r)), (7, .int (alK r hd i s f c k)), (8, .int (nI k))]) hx hb dX9_alike_168 hl (k := 12) rfl (inc_nI n) (by decide) rfl (fun ls hl => ?_)
                        refine lv_goto (tgt := 28) hx hb dX9_alike_171 (by decide) ?_
                        have e9 : alM r hd i s f c k (n + 1) = (alM r hd i s f c k n) + 0 := by first | contradiction | simp [alM, lkF, hn, hz, c2, c2', c4, c6, c12, c13, c14]
                        have hl : lv_has ls 13 [(10, .int (nI (n + 1))), (9, .int (alM r hd i s f c k (n + 1))), (12, .int (crk (nI n) (r (21 + cl i)) c f (yNext r))), (11, .int (crk (r (15 + cl i)) (nI k) c f (yNext r))), (0, .ref (o 0)), (1, .int (i)), (2, .int (s)), (3, .int (hd)), (4, .int (f)), (5, .int (c)), (6, .int (yNext r)), (7, .int (alK r hd i s f c k)), (8, .int (nI k))] := by rw [e9]; exact hl
                        exact ih28 (n + 1) (by omega) (by omega) (Or.inr (by assumption)) _ (lv_sub hl [4, 5, 6, 7, 8, 9, 10, 11, 12, 1, 0] rfl)
                      · skip
                        refine lv_iconst (v := 1) hx hb dX9_alike_160 rfl ?_
                        refine lv_goto (tgt := 165) hx hb dX9_alike_161 (by decide) ?_
                        refine lv_iadd hx hb dX9_alike_165 ?_
                        refine lv_istore (lv' := [(9, .int ((alM r hd i s f c k n) + 1)), (12, .int (crk (nI n) (r (21 + cl i)) c f (yNext r))), (11, .int (crk (r (15 + cl i)) (nI k) c f (yNext r))), (0, .ref (o 0)), (1, .int (i)), (2, .int (s)), (3, .int (hd)), (4, .int (f)), (5, .int (c)), (6, .int (yNext r)), (7, .int (alK r hd i s f c k)), (8, .int (nI k)), (10, .int (nI n))]) hx hb dX9_alike_166 hl (by decide) rfl (fun ls hl => ?_)
                        refine lv_iinc (v := nI (n + 1)) (lv' := [(10, .int (nI (n + 1))), (9, .int ((alM r hd i s f c k n) + 1)), (12, .int (crk (nI n) (r (21 + cl i)) c f (yNext r))), (11, .int (crk (r (15 + cl i)) (nI k) c f (yNext r))), (0, .ref (o 0)), (1, .int (i)), (2, .int (s)), (3, .int (hd)), (4, .int (f)), (5, .int (c)), (6, .int (yNext r)), (7, .int (alK r hd i s f c k)), (8, .int (nI k))]) hx hb dX9_alike_168 hl (k := 12) rfl (inc_nI n) (by decide) rfl (fun ls hl => ?_)
                        refine lv_goto (tgt := 28) hx hb dX9_alike_171 (by decide) ?_
                        have e9 : alM r hd i s f c k (n + 1) = (alM r hd i s f c k n) + 1 := by first | contradiction | simp [alM, lkF, hn, hz, c2, c2', c4, c6, c12, c13, c14]
                        have hl : lv_has ls 13 [(10, .int (nI (n + 1))), (9, .int (alM r hd i s f c k (n + 1))), (12, .int (crk (nI n) (r (21 + cl i)) c f (yNext r))), (11, .int (crk (r (15 + cl i)) (nI k) c f (yNext r))), (0, .ref (o 0)), (1, .int (i)), (2, .int (s)), (3, .int (hd)), (4, .int (f)), (5, .int (c)), (6, .int (yNext r)), (7, .int (alK r hd i s f c k)), (8, .int (nI k))] := by rw [e9]; exact hl
                        exact ih28 (n + 1) (by omega) (by omega) (Or.inr (by assumption)) _ (lv_sub hl [4, 5, 6, 7, 8, 9, 10, 11, 12, 1, 0] rfl)
                  · skip
                    refine lv_aload_n hx hb dX9_alike_97 rfl (lv_at hl 1 rfl) ?_
                    refine kget hC.1 hK (kP_app.mp hP).1 0 rfl rfl in_9 3 (by decide) (gw_in m_963 rfl) rfl dX9_alike_98 ?_
                    refine lv_bipush (v := 15) hx hb dX9_alike_101 rfl ?_
                    refine lv_iload_n hx hb dX9_alike_103 rfl (lv_at hl 2 rfl) ?_
                    refine lv_iadd hx hb dX9_alike_104 ?_
                    refine kald (v := r (15 + cl i)) hC.1 hK (kP_app.mp (kP_app.mp hP).2).1 0 rfl (ix_in (K := 15) hi (by omega) (by omega)) (congrArg r (show cl (15 + i) = 15 + cl i from ix_cl (K := 15) hi (by omega))) dX9_alike_105 ?_
                    refine lv_iload hx hb dX9_alike_106 (lv_at hl 11 rfl) ?_
                    refine lv_iload hx hb dX9_alike_108 (lv_at hl 6 rfl) ?_
                    refine lv_iload hx hb dX9_alike_110 (lv_at hl 5 rfl) ?_
                    refine lv_iload hx hb dX9_alike_112 (lv_at hl 7 rfl) ?_
                    refine ro_i (run_S (As := [.int (r (15 + cl i)), .int (nI n), .int (c), .int (f), .int (yNext r)]) (rest := []) hC.1 ckX9_cracksBy (kX9_cracksBy l (r (15 + cl i)) (nI n) c f (yNext r)) (gw_in m_1157 rfl) (fb_nil _) (fun _ _ _ => trivial) ⟨rfl, rfl, Nat.le_of_ble_eq_true rfl, Nat.le_of_ble_eq_true rfl⟩ rfl hl.1 rfl (Nat.le_of_ble_eq_true rfl) dX9_alike_114 ⟨Nat.le_of_ble_eq_true rfl, Nat.le_of_ble_eq_true rfl⟩) ?_
                    refine lv_goto (tgt := 140) hx hb dX9_alike_117 (by decide) ?_
                    refine lv_istore (lv' := [(12, .int (crk (r (15 + cl i)) (nI n) c f (yNext r))), (11, .int (crk (r (15 + cl i)) (nI k) c f (yNext r))), (0, .ref (o 0)), (1, .int (i)), (2, .int (s)), (3, .int (hd)), (4, .int (f)), (5, .int (c)), (6, .int (yNext r)), (7, .int (alK r hd i s f c k)), (8, .int (nI k)), (9, .int (alM r hd i s f c k n)), (10, .int (nI n))]) hx hb dX9_alike_140 hl (by decide) rfl (fun ls hl => ?_)
                    refine lv_iload hx hb dX9_alike_142 (lv_at hl 11 rfl) ?_
                    refine lv_iload_n hx hb dX9_alike_144 rfl (lv_at hl 4 rfl) ?_
                    refine lv_iload hx hb dX9_alike_145 (lv_at hl 12 rfl) ?_
                    refine ro_i (run_S (As := [.int (s), .int (nI n)]) (rest := [.int (alM r hd i s f c k n)]) hC.1 ckX9_has (kX9_has l s (nI n)) (gw_in m_1225 rfl) (fb_nil _) (fun _ _ _ => trivial) ⟨rfl, rfl, Nat.le_of_ble_eq_true rfl, Nat.le_of_ble_eq_true rfl⟩ rfl hl.1 rfl (Nat.le_of_ble_eq_true rfl) dX9_alike_147 ⟨Nat.le_of_ble_eq_true rfl, Nat.le_of_ble_eq_true rfl⟩) ?_
                    refine lv_if_eq (tgt := 164) hx hb dX9_alike_150 (by decide) (fun c15 => ?_) (fun c15 => ?_)
                    · skip
                      have c15 := b2i_0 c15
                      refine lv_iconst (v := 0) hx hb dX9_alike_164 rfl ?_
                      refine lv_iadd hx hb dX9_alike_165 ?_
                      refine lv_istore (lv' := [(9, .int ((alM r hd i s f c k n) + 0)), (12, .int (crk (r (15 + cl i)) (nI n) c f (yNext r))), (11, .int (crk (r (15 + cl i)) (nI k) c f (yNext r))), (0, .ref (o 0)), (1, .int (i)), (2, .int (s)), (3, .int (hd)), (4, .int (f)), (5, .int (c)), (6, .int (yNext r)), (7, .int (alK r hd i s f c k)), (8, .int (nI k)), (10, .int (nI n))]) hx hb dX9_alike_166 hl (by decide) rfl (fun ls hl => ?_)
                      refine lv_iinc (v := nI (n + 1)) (lv' := [(10, .int (nI (n + 1))), (9, .int ((alM r hd i s f c k n) + 0)), (12, .int (crk (r (15 + cl i)) (nI n) c f (yNext r))), (11, .int (crk (r (15 + cl i)) (nI k) c f (yNext r))), (0, .ref (o 0)), (1, .int (i)), (2, .int (s)), (3, .int (hd)), (4, .int (f)), (5, .int (c)), (6, .int (yNext r)), (7, .int (alK r hd i s f c k)), (8, .int (nI k))]) hx hb dX9_alike_168 hl (k := 12) rfl (inc_nI n) (by decide) rfl (fun ls hl => ?_)
                      refine lv_goto (tgt := 28) hx hb dX9_alike_171 (by decide) ?_
                      have e9 : alM r hd i s f c k (n + 1) = (alM r hd i s f c k n) + 0 := by first | contradiction | simp [alM, lkF, hn, hz, c2, c2', c4, c6, c12, c15]
                      have hl : lv_has ls 13 [(10, .int (nI (n + 1))), (9, .int (alM r hd i s f c k (n + 1))), (12, .int (crk (r (15 + cl i)) (nI n) c f (yNext r))), (11, .int (crk (r (15 + cl i)) (nI k) c f (yNext r))), (0, .ref (o 0)), (1, .int (i)), (2, .int (s)), (3, .int (hd)), (4, .int (f)), (5, .int (c)), (6, .int (yNext r)), (7, .int (alK r hd i s f c k)), (8, .int (nI k))] := by rw [e9]; exact hl
                      exact ih28 (n + 1) (by omega) (by omega) (Or.inr (by assumption)) _ (lv_sub hl [4, 5, 6, 7, 8, 9, 10, 11, 12, 1, 0] rfl)
                    · skip
                      have c15 := b2i_1 c15
                      refine lv_iload hx hb dX9_alike_153 (lv_at hl 1 rfl) ?_
                      refine lv_iload hx hb dX9_alike_155 (lv_at hl 0 rfl) ?_
                      refine lv_icmp_ne (tgt := 164) hx hb dX9_alike_157 (by decide) (fun c16 => ?_) (fun c16 => ?_)
                      · skip
                        refine lv_iconst (v := 0) hx hb dX9_alike_164 rfl ?_
                        refine lv_iadd hx hb dX9_alike_165 ?_
                        refine lv_istore (lv' := [(9, .int ((alM r hd i s f c k n) + 0)), (12, .int (crk (r (15 + cl i)) (nI n) c f (yNext r))), (11, .int (crk (r (15 + cl i)) (nI k) c f (yNext r))), (0, .ref (o 0)), (1, .int (i)), (2, .int (s)), (3, .int (hd)), (4, .int (f)), (5, .int (c)), (6, .int (yNext r)), (7, .int (alK r hd i s f c k)), (8, .int (nI k)), (10, .int (nI n))]) hx hb dX9_alike_166 hl (by decide) rfl (fun ls hl => ?_)
                        refine lv_iinc (v := nI (n + 1)) (lv' := [(10, .int (nI (n + 1))), (9, .int ((alM r hd i s f c k n) + 0)), (12, .int (crk (r (15 + cl i)) (nI n) c f (yNext r))), (11, .int (crk (r (15 + cl i)) (nI k) c f (yNext r))), (0, .ref (o 0)), (1, .int (i)), (2, .int (s)), (3, .int (hd)), (4, .int (f)), (5, .int (c)), (6, .int (yNext r)), (7, .int (alK r hd i s f c k)), (8, .int (nI k))]) hx hb dX9_alike_168 hl (k := 12) rfl (inc_nI n) (by decide) rfl (fun ls hl => ?_)
                        refine lv_goto (tgt := 28) hx hb dX9_alike_171 (by decide) ?_
                        have e9 : alM r hd i s f c k (n + 1) = (alM r hd i s f c k n) + 0 := by first | contradiction | simp [alM, lkF, hn, hz, c2, c2', c4, c6, c12, c15, c16]
                        have hl : lv_has ls 13 [(10, .int (nI (n + 1))), (9, .int (alM r hd i s f c k (n + 1))), (12, .int (crk (r (15 + cl i)) (nI n) c f (yNext r))), (11, .int (crk (r (15 + cl i)) (nI k) c f (yNext r))), (0, .ref (o 0)), (1, .int (i)), (2, .int (s)), (3, .int (hd)), (4, .int (f)), (5, .int (c)), (6, .int (yNext r)), (7, .int (alK r hd i s f c k)), (8, .int (nI k))] := by rw [e9]; exact hl
                        exact ih28 (n + 1) (by omega) (by omega) (Or.inr (by assumption)) _ (lv_sub hl [4, 5, 6, 7, 8, 9, 10, 11, 12, 1, 0] rfl)
                      · skip
                        refine lv_iconst (v := 1) hx hb dX9_alike_160 rfl ?_
                        refine lv_goto (tgt := 165) hx hb dX9_alike_161 (by decide) ?_
                        refine lv_iadd hx hb dX9_alike_165 ?_
                        refine lv_istore (lv' := [(9, .int ((alM r hd i s f c k n) + 1)), (12, .int (crk (r (15 + cl i)) (nI n) c f (yNext r))), (11, .int (crk (r (15 + cl i)) (nI k) c f (yNext r))), (0, .ref (o 0)), (1, .int (i)), (2, .int (s)), (3, .int (hd)), (4, .int (f)), (5, .int (c)), (6, .int (yNext r)), (7, .int (alK r hd i s f c k)), (8, .int (nI k)), (10, .int (nI n))]) hx hb dX9_alike_166 hl (by decide) rfl (fun ls hl => ?_)
                        refine lv_iinc (v := nI (n + 1)) (lv' := [(10, .int (nI (n + 1))), (9, .int ((alM r hd i s f c k n) + 1)), (12, .int (crk (r (15 + cl i)) (nI n) c f (yNext r))), (11, .int (crk (r (15 + cl i)) (nI k) c f (yNext r))), (0, .ref (o 0)), (1, .int (i)), (2, .int (s)), (3, .int (hd)), (4, .int (f)), (5, .int (c)), (6, .int (yNext r)), (7, .int (alK r hd i s f c k)), (8, .int (nI k))]) hx hb dX9_alike_168 hl (k := 12) rfl (inc_nI n) (by decide) rfl (fun ls hl => ?_)
                        refine lv_goto (tgt := 28) hx hb dX9_alike_171 (by decide) ?_
                        have e9 : alM r hd i s f c k (n + 1) = (alM r hd i s f c k n) + 1 := by first | contradiction | simp [alM, lkF, hn, hz, c2, c2', c4, c6, c12, c15, c16]
                        have hl : lv_has ls 13 [(10, .int (nI (n + 1))), (9, .int (alM r hd i s f c k (n + 1))), (12, .int (crk (r (15 + cl i)) (nI n) c f (yNext r))), (11, .int (crk (r (15 + cl i)) (nI k) c f (yNext r))), (0, .ref (o 0)), (1, .int (i)), (2, .int (s)), (3, .int (hd)), (4, .int (f)), (5, .int (c)), (6, .int (yNext r)), (7, .int (alK r hd i s f c k)), (8, .int (nI k))] := by rw [e9]; exact hl
                        exact ih28 (n + 1) (by omega) (by omega) (Or.inr (by assumption)) _ (lv_sub hl [4, 5, 6, 7, 8, 9, 10, 11, 12, 1, 0] rfl)
        exact cut28 _ 0 (Nat.lt_succ_self _) (by omega) (Or.inl rfl) _ (lv_sub hl [2, 3, 4, 5, 6, 7, 8, 9, 10, 1, 0] rfl)
  exact cut15 _ 0 (Nat.lt_succ_self _) (by omega) _ (lv_sub hl [3, 4, 5, 6, 7, 8, 2, 1, 0] rfl)
