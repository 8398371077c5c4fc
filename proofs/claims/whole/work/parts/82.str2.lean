theorem ckX5_readItem : ckV yX5_readItem cX5_readItem 3 (some .boolean) 2 := ⟨(gw_in m_414 rfl), (gw_in m_68 rfl), ⟨(gw_in m_413 rfl), (gw_in m_6 rfl)⟩, by decide +kernel, by decide +kernel, by decide +kernel⟩
theorem ckX5_readInto : ckV yX5_readInto cX5_readInto 3 (some .int) 1 := ⟨(gw_in m_387 rfl), (gw_in m_68 rfl), ⟨(gw_in m_385 rfl), (gw_in m_386 rfl)⟩, by decide +kernel, by decide +kernel, by decide +kernel⟩
theorem ckX8_read : ckV yX8_read cX8_read 3 (some .int) 0 := ⟨(gw_in m_383 rfl), (gw_in m_62 rfl), ⟨(gw_in m_381 rfl), (gw_in m_382 rfl)⟩, by decide +kernel, by decide +kernel, by decide +kernel⟩
theorem kX5_spells_T (l : Launch) (g : gG) (q9 : sQ) (x : Nat → Nat) (N : Nat) (f : Nat → Int32) (T : T5) (i : Nat) (hi5 : i < 5) (hN : N ≤ 150) (hsb : T.2.1 = 1 → T.2.2.1 ≤ T.2.2.2.1 ∧ T.2.2.2.1 ≤ N) : Met l yX5_spells (.code yX5_spells cX5_spells 3 (some .boolean) :: gw) (rmN 4) (va_Pc [.ref (x 0), .ref (q9.1 i)] (fun U => roPre g (xT g x N f T) U ∧ kS q9 (fun _ => False) U U.heap)) (vp_Si (fun v => v = (b2i (spB f N T.2.1 T.2.2.1 T.2.2.2.1 i)))) 0 0 (fun _ => False) := kX5_spells l g q9 x N T.1 f T.2.1 T.2.2.1 T.2.2.2.1 T.2.2.2.2 i hi5 hN hsb
theorem sp_1 {f : Nat → Int32} {N : Nat} {so : Int32} {sta beh i : Nat} (h : spB f N so sta beh i = true) : so = 1 := by
  unfold spB at h
  simp only [Bool.and_eq_true, decide_eq_true_eq] at h
  exact h.1.1
def rdI (f : Nat → Int32) (N : Nat) (b : Bool) (T : T5) (r : Nat → Int32) : Bool × T5 × (Nat → Int32) :=
  if b = true then (if spB f N T.2.1 T.2.2.1 T.2.2.2.1 0 = true then rdNum f N T r else (false, fhT N T, r))
  else if spB f N T.2.1 T.2.2.1 T.2.2.2.1 1 = true then rdPl f N T r
  else if spB f N T.2.1 T.2.2.1 T.2.2.2.1 2 = true then rdNut f N T r
  else if spB f N T.2.1 T.2.2.1 T.2.2.2.1 3 = true then rdStk f N T r
  else if spB f N T.2.1 T.2.2.1 T.2.2.2.1 4 = true then rdWait f N T r
  else (false, fhT N T, r)
def rdC (f : Nat → Int32) (N : Nat) : Nat → Nat → T5 → (Nat → Int32) → Int32 × T5 × (Nat → Int32)
  | 0, _, T, q => (-1, T, q)
  | F + 1, n, T, q => if (ntT f N T).2.1 = 0 ∧ 0 < n then (nI n, ntT f N T, q) else if (rdI f N (decide (n = 0)) (ntT f N T) q).1 = true then (if (ntT f N (rdI f N (decide (n = 0)) (ntT f N T) q).2.1).2.1 = 3 then rdC f N F (n + 1) (ntT f N (rdI f N (decide (n = 0)) (ntT f N T) q).2.1) (rdI f N (decide (n = 0)) (ntT f N T) q).2.2 else (-1, fhT N (ntT f N (rdI f N (decide (n = 0)) (ntT f N T) q).2.1), (rdI f N (decide (n = 0)) (ntT f N T) q).2.2)) else (-1, (rdI f N (decide (n = 0)) (ntT f N T) q).2.1, (rdI f N (decide (n = 0)) (ntT f N T) q).2.2)
theorem rdC_end {f : Nat → Int32} {N n : Nat} {T : T5} {q : Nat → Int32} (hn : n < 151) (h : (ntT f N T).2.1 = 0 ∧ 0 < n) : rdC f N (151 - n) n T q = (nI n, ntT f N T, q) := by
  rw [show 151 - n = (150 - n) + 1 by omega]; exact if_pos h
theorem rdC_no {f : Nat → Int32} {N n : Nat} {T : T5} {q : Nat → Int32} (hn : n < 151) (h : ¬ ((ntT f N T).2.1 = 0 ∧ 0 < n)) (h1 : (rdI f N (decide (n = 0)) (ntT f N T) q).1 = false) : rdC f N (151 - n) n T q = (-1, (rdI f N (decide (n = 0)) (ntT f N T) q).2.1, (rdI f N (decide (n = 0)) (ntT f N T) q).2.2) := by
  rw [show 151 - n = (150 - n) + 1 by omega]; exact (if_neg h).trans (if_neg (by rw [h1]; decide))
theorem rdC_bad {f : Nat → Int32} {N n : Nat} {T : T5} {q : Nat → Int32} (hn : n < 151) (h : ¬ ((ntT f N T).2.1 = 0 ∧ 0 < n)) (h1 : (rdI f N (decide (n = 0)) (ntT f N T) q).1 = true) (h2 : ¬ (ntT f N (rdI f N (decide (n = 0)) (ntT f N T) q).2.1).2.1 = 3) : rdC f N (151 - n) n T q = (-1, fhT N (ntT f N (rdI f N (decide (n = 0)) (ntT f N T) q).2.1), (rdI f N (decide (n = 0)) (ntT f N T) q).2.2) := by
  rw [show 151 - n = (150 - n) + 1 by omega]; exact (if_neg h).trans ((if_pos h1).trans (if_neg h2))
theorem rdC_go {f : Nat → Int32} {N n : Nat} {T : T5} {q : Nat → Int32} (hn : n < 151) (h : ¬ ((ntT f N T).2.1 = 0 ∧ 0 < n)) (h1 : (rdI f N (decide (n = 0)) (ntT f N T) q).1 = true) (h2 : (ntT f N (rdI f N (decide (n = 0)) (ntT f N T) q).2.1).2.1 = 3) : rdC f N (151 - n) n T q = rdC f N (151 - (n + 1)) (n + 1) (ntT f N (rdI f N (decide (n = 0)) (ntT f N T) q).2.1) (rdI f N (decide (n = 0)) (ntT f N T) q).2.2 := by
  rw [show 151 - n = (151 - (n + 1)) + 1 by omega]; exact (if_neg h).trans ((if_pos h1).trans (if_pos h2))
theorem nt_word {f : Nat → Int32} {N : Nat} {T : T5} (hb : T.2.2.2.1 ≤ N) : (ntT f N T).2.1 = 1 → (ntT f N T).2.2.1 ≤ (ntT f N T).2.2.2.1 ∧ (ntT f N T).2.2.2.1 ≤ N := by
  intro h
  have hs := skF_le (p := fun k => decide (f k = 32)) hb
  unfold ntT at h ⊢
  by_cases c1 : skF (fun k => decide (f k = 32)) N T.2.2.2.1 < N
  · rw [if_pos c1] at h ⊢
    by_cases c2 : wth (f (skF (fun k => decide (f k = 32)) N T.2.2.2.1)) 97 122 = true
    · rw [if_pos c2]
      exact ⟨Nat.le_trans (Nat.le_succ _) skF_ge, skF_le (by omega)⟩
    · rw [if_neg c2] at h
      by_cases c3 : wth (f (skF (fun k => decide (f k = 32)) N T.2.2.2.1)) 48 57 = true
      · rw [if_pos c3] at h
        have h' : (if skF (fun k => wth (f k) 48 57) N (skF (fun k => decide (f k = 32)) N T.2.2.2.1 + 1) - skF (fun k => decide (f k = 32)) N T.2.2.2.1 ≤ 2 then (2 : Int32) else 4) = 1 := h
        split at h'
        · exact absurd h' (by decide)
        · exact absurd h' (by decide)
      · rw [if_neg c3] at h
        have h' : (if f (skF (fun k => decide (f k = 32)) N T.2.2.2.1) = 59 then (3 : Int32) else 4) = 1 := h
        split at h'
        · exact absurd h' (by decide)
        · exact absurd h' (by decide)
  · rw [if_neg c1] at h
    exact absurd (show (0 : Int32) = 1 from h) (by decide)
theorem nt_semi {f : Nat → Int32} {N : Nat} {T : T5} (hb : T.2.2.2.1 ≤ N) (h : (ntT f N T).2.1 = 3) : (ntT f N T).2.2.2.1 ≤ N := by
  have hs := skF_le (p := fun k => decide (f k = 32)) hb
  unfold ntT at h ⊢
  by_cases c1 : skF (fun k => decide (f k = 32)) N T.2.2.2.1 < N
  · rw [if_pos c1] at h ⊢
    by_cases c2 : wth (f (skF (fun k => decide (f k = 32)) N T.2.2.2.1)) 97 122 = true
    · rw [if_pos c2]; exact skF_le (by omega)
    · rw [if_neg c2]
      by_cases c3 : wth (f (skF (fun k => decide (f k = 32)) N T.2.2.2.1)) 48 57 = true
      · rw [if_pos c3]; exact skF_le (by omega)
      · rw [if_neg c3]; show _ + 1 ≤ N; omega
  · rw [if_neg c1] at h
    exact absurd (show (0 : Int32) = 3 from h) (by decide)
theorem Wf_z0 {r : Nat → Int32} (h : Wf r) : Wf (upd (upd (upd r 1 0) 2 0) 0 0) := by
  obtain ⟨h0, h1, h2, h3, h4, h5⟩ := h
  have g : ∀ n, 3 ≤ n → upd (upd (upd r 1 0) 2 0) 0 0 n = r n := fun n hn => by rw [upd_ne (by omega), upd_ne (by omega), upd_ne (by omega)]
  refine ⟨?_, ?_, ?_, ?_, ?_, ?_⟩
  · rw [upd_eq]; exact bd_0 (by decide)
  · rw [upd_ne (by decide), upd_ne (by decide), upd_eq]; exact bd_0 (by decide)
  · rw [upd_ne (by decide), upd_eq]; exact bd_0 (by decide)
  · intro j hj; rw [g _ (by omega), g _ (by omega)]; exact h3 j hj
  · intro j hj; rw [g _ (by omega), g _ (by omega), g _ (by omega), g _ (by omega), g _ (by omega), g _ (by omega)]; exact h4 j hj
  · intro j hj; rw [upd_ne (by decide), upd_eq, show (0 : Int32).toInt = 0 from rfl] at hj; omega
theorem Wf_num {r : Nat → Int32} {t : Int32} (h : Wf r) (ht : bd t 0 9999) : Wf (upd (upd (upd r 1 0) 2 0) 0 t) := by
  have h1 := Wf_0 (Wf_z0 h) ht
  have e : upd (upd (upd (upd r 1 0) 2 0) 0 0) 0 t = upd (upd (upd r 1 0) 2 0) 0 t := by
    funext k
    by_cases hk : k = 0
    · rw [hk, upd_eq, upd_eq]
    · rw [upd_ne hk, upd_ne hk, upd_ne hk]
  rwa [e] at h1
theorem Wf_passC {r : Nat → Int32} {n : Int32} (h : Wf r) (hn : bd n 0 99) : Wf (upd r 0 (if r 0 + n < 9999 then r 0 + n else 9999)) := by
  have h0 := h.num
  have hn1 := hn.1
  have hn2 := hn.2
  have e : (r 0 + n).toInt = (r 0).toInt + n.toInt := ti_add (by omega) (by omega)
  refine Wf_0 h ?_
  by_cases c : r 0 + n < 9999
  · rw [if_pos c]
    rw [Int32.lt_iff_toInt_lt, e, show (9999 : Int32).toInt = 9999 from rfl] at c
    unfold bd
    omega
  · rw [if_neg c]; exact ⟨by decide, by decide⟩
/-- what holds of an item that the class has read -/
abbrev RcG (N : Nat) (q : Nat → Int32) (d : Bool × T5 × (Nat → Int32)) : Prop := (d.1 = true → d.2.1.2.2.2.1 ≤ N) ∧ (Wf q → Wf d.2.2)
theorem RcG_no {N : Nat} {T : T5} {q : Nat → Int32} : RcG N q (false, T, q) := ⟨fun h => absurd (show false = true from h) (by decide), fun h => h⟩
theorem tk_bd {f : Nat → Int32} {N : Nat} {lo hi : Int32} {T : T5} (h : tkB f N lo hi T = true) : lo.toInt ≤ (ntT f N T).2.2.2.2.toInt ∧ (ntT f N T).2.2.2.2.toInt ≤ hi.toInt := by
  simp only [tkB, Bool.and_eq_true] at h
  exact wth_ti.mp h.2
theorem rdI_G {f : Nat → Int32} {N : Nat} {b : Bool} {T : T5} {q : Nat → Int32} (hs : T.2.1 = 1 → T.2.2.1 ≤ T.2.2.2.1 ∧ T.2.2.2.1 ≤ N) : RcG N q (rdI f N b T q) := by
  unfold rdI
  split
  · split
    · rename_i h1
      have hb := (hs (sp_1 h1)).2
      unfold rdNum
      split
      · rename_i h2
        exact ⟨fun _ => tk_beh hb h2, fun hw => Wf_num hw (by have h9 := tk_bd h2; rw [show (0 : Int32).toInt = 0 from rfl, show (99 : Int32).toInt = 99 from rfl] at h9; unfold bd; omega)⟩
      · exact RcG_no
    · exact RcG_no
  · split
    · rename_i h1
      have hb := (hs (sp_1 h1)).2
      unfold rdPl
      split
      · rename_i h0
        split
        · rename_i h2
          have hb2 := tk_beh hb h2
          split
          · rename_i h3
            exact ⟨fun _ => tk_beh hb2 h3, fun hw => Wf_adP hw (pl_bd hw h0) (tk_bd h2) (by have h9 := tk_bd h3; rw [show (1 : Int32).toInt = 1 from rfl, show (9 : Int32).toInt = 9 from rfl] at h9; unfold bd; omega)⟩
          · exact RcG_no
        · exact RcG_no
      · exact RcG_no
    · split
      · rename_i h1
        have hb := (hs (sp_1 h1)).2
        unfold rdNut
        split
        · rename_i h0
          split
          · rename_i h2
            have hb2 := tk_beh hb h2
            split
            · rename_i h3
              have hb3 := tk_beh hb2 h3
              split
              · rename_i h4
                have hb4 := tk_beh hb3 h4
                split
                · rename_i h5
                  refine ⟨fun _ => tk_beh hb4 h5, fun hw => Wf_adN hw (nu_bd hw h0) ?_ (tk_bd h3) (tk_bd h4) (by have h9 := tk_bd h5; rw [show (1 : Int32).toInt = 1 from rfl, show (9 : Int32).toInt = 9 from rfl] at h9; unfold bd; omega)⟩
                  have h9 := tk_bd h2
                  have hq := hw.2.1
                  unfold bd at hq
                  have e : (q 1 - 1).toInt = (q 1).toInt - 1 := ti_sub (by show _ ≤ _ - 1; omega) (by show _ - 1 < _; omega)
                  rw [e, show (0 : Int32).toInt = 0 from rfl] at h9
                  omega
                · exact RcG_no
              · exact RcG_no
            · exact RcG_no
          · exact RcG_no
        · exact RcG_no
      · split
        · rename_i h1
          have hb := (hs (sp_1 h1)).2
          unfold rdStk
          split
          · rename_i h2
            have hb2 := tk_beh hb h2
            split
            · exact RcG_no
            · split
              · rename_i h3
                split
                · rename_i h4
                  exact ⟨fun _ => tk_beh hb2 h3, fun hw => Wf_stk hw (yCan_nut h4).1 (yCan_nut h4).2⟩
                · exact RcG_no
              · exact RcG_no
          · exact RcG_no
        · split
          · rename_i h1
            have hb := (hs (sp_1 h1)).2
            unfold rdWait
            split
            · rename_i h2
              exact ⟨fun _ => tk_beh hb h2, fun hw => Wf_passC hw (by have h9 := tk_bd h2; rw [show (1 : Int32).toInt = 1 from rfl, show (99 : Int32).toInt = 99 from rfl] at h9; unfold bd; omega)⟩
            · exact RcG_no
          · exact RcG_no
set_option maxHeartbeats 4000000 in
set_option maxRecDepth 100000 in
theorem kX5_readItem (l : Launch) (g : gG) (q9 : sQ) (x : Nat → Nat) (N : Nat) (f : Nat → Int32) (T : T5) (a : Nat → Nat) (r : Nat → Int32) (b : Bool) (hN : N ≤ 150) (hsb : T.2.1 = 1 → T.2.2.1 ≤ T.2.2.2.1 ∧ T.2.2.2.1 ≤ N) (hw : Wf r) : Met l yX5_readItem (.code yX5_readItem cX5_readItem 3 (some .boolean) :: gw) (rmN 6) (va_Pc [.ref (x 0), .ref (a 0), .int (b2i b)] (fun U => rwPre g (xT g x N f T ++ (yW g a r ++ [])) U ∧ kS q9 (dm (xT g x N f T ++ (yW g a r ++ []))) U U.heap)) (rwQi g (xT g x N f T ++ (yW g a r ++ [])) (xT g x N f (rdI f N b T r).2.1 ++ (yW g a (rdI f N b T r).2.2 ++ [])) (b2i (rdI f N b T r).1)) 0 0 (dm (xT g x N f T ++ (yW g a r ++ []))) := by
  refine met_start (by decide) (Nat.le_of_ble_eq_true rfl) ?_
  intro pp ee ss mm bl mt cd hC hpre ls hl
  obtain ⟨⟨hx, hb, hml, hown, hts⟩, hr, hlk, hnm⟩ := id hC
  have hl : lv_has ls 3 [(0, .ref (x 0)), (1, .ref (a 0)), (2, .int (b2i b))] := hl
  obtain ⟨⟨hP, hK, hD⟩, hZ⟩ := hpre
  have hS : va_S (dm (xT g x N f T ++ (yW g a r ++ []))) ss.heap ss.heap [] := va_S.rf
  have hD := vD_self hD
  refine lv_iload_n hx hb dX5_readItem_0 rfl (lv_at hl 2 rfl) ?_
  refine lv_if_eq (tgt := 26) hx hb dX5_readItem_1 (by decide) (fun c1 => ?_) (fun c1 => ?_)
  · skip
    have c1 := b2i_0 c1
    refine lv_aload_n hx hb dX5_readItem_26 rfl (lv_at hl 0 rfl) ?_
    refine va_ldcS hx hb hown (hZ.2.2.2 1 (by decide)) dX5_readItem_27 ?_
    refine ro_i (run_V (As := [.ref (q9.1 1)]) (rest := []) hC.1 ckX5_spells (kX5_spells_T l g q9 x N f T 1 (by decide) hN hsb) (gw_in m_416 rfl) (fb_roS _ _ _ _) (va_recv hK.1 (kP_app.mp hP).1 (q0 := 0) rfl rfl) (fun U hU hW => ⟨⟨by rw [hU]; exact (kP_app.mp hP).1, kK_warm hW hK⟩, kS_go (fun _ h => h.elim) hZ hS hU hW⟩) ⟨rfl, rfl, Nat.le_of_ble_eq_true rfl, Nat.le_of_ble_eq_true rfl⟩ rfl hl.1 rfl (Nat.le_of_ble_eq_true rfl) dX5_readItem_29 ⟨Nat.le_of_ble_eq_true rfl, Nat.le_of_ble_eq_true rfl⟩) ?_
    refine lv_if_eq (tgt := 41) hx hb dX5_readItem_32 (by decide) (fun c2 => ?_) (fun c2 => ?_)
    · skip
      have c2 := b2i_0 c2
      refine lv_aload_n hx hb dX5_readItem_41 rfl (lv_at hl 0 rfl) ?_
      refine va_ldcS hx hb hown (hZ.2.2.2 2 (by decide)) dX5_readItem_42 ?_
      refine ro_i (run_V (As := [.ref (q9.1 2)]) (rest := []) hC.1 ckX5_spells (kX5_spells_T l g q9 x N f T 2 (by decide) hN hsb) (gw_in m_416 rfl) (fb_roS _ _ _ _) (va_recv hK.1 (kP_app.mp hP).1 (q0 := 0) rfl rfl) (fun U hU hW => ⟨⟨by rw [hU]; exact (kP_app.mp hP).1, kK_warm hW hK⟩, kS_go (fun _ h => h.elim) hZ hS hU hW⟩) ⟨rfl, rfl, Nat.le_of_ble_eq_true rfl, Nat.le_of_ble_eq_true rfl⟩ rfl hl.1 rfl (Nat.le_of_ble_eq_true rfl) dX5_readItem_44 ⟨Nat.le_of_ble_eq_true rfl, Nat.le_of_ble_eq_true rfl⟩) ?_
      refine lv_if_eq (tgt := 56) hx hb dX5_readItem_47 (by decide) (fun c3 => ?_) (fun c3 => ?_)
      · skip
        have c3 := b2i_0 c3
        refine lv_aload_n hx hb dX5_readItem_56 rfl (lv_at hl 0 rfl) ?_
        refine va_ldcS hx hb hown (hZ.2.2.2 3 (by decide)) dX5_readItem_57 ?_
        refine ro_i (run_V (As := [.ref (q9.1 3)]) (rest := []) hC.1 ckX5_spells (kX5_spells_T l g q9 x N f T 3 (by decide) hN hsb) (gw_in m_416 rfl) (fb_roS _ _ _ _) (va_recv hK.1 (kP_app.mp hP).1 (q0 := 0) rfl rfl) (fun U hU hW => ⟨⟨by rw [hU]; exact (kP_app.mp hP).1, kK_warm hW hK⟩, kS_go (fun _ h => h.elim) hZ hS hU hW⟩) ⟨rfl, rfl, Nat.le_of_ble_eq_true rfl, Nat.le_of_ble_eq_true rfl⟩ rfl hl.1 rfl (Nat.le_of_ble_eq_true rfl) dX5_readItem_59 ⟨Nat.le_of_ble_eq_true rfl, Nat.le_of_ble_eq_true rfl⟩) ?_
        refine lv_if_eq (tgt := 71) hx hb dX5_readItem_62 (by decide) (fun c4 => ?_) (fun c4 => ?_)
        · skip
          have c4 := b2i_0 c4
          refine lv_aload_n hx hb dX5_readItem_71 rfl (lv_at hl 0 rfl) ?_
          refine va_ldcS hx hb hown (hZ.2.2.2 4 (by decide)) dX5_readItem_72 ?_
          refine ro_i (run_V (As := [.ref (q9.1 4)]) (rest := []) hC.1 ckX5_spells (kX5_spells_T l g q9 x N f T 4 (by decide) hN hsb) (gw_in m_416 rfl) (fb_roS _ _ _ _) (va_recv hK.1 (kP_app.mp hP).1 (q0 := 0) rfl rfl) (fun U hU hW => ⟨⟨by rw [hU]; exact (kP_app.mp hP).1, kK_warm hW hK⟩, kS_go (fun _ h => h.elim) hZ hS hU hW⟩) ⟨rfl, rfl, Nat.le_of_ble_eq_true rfl, Nat.le_of_ble_eq_true rfl⟩ rfl hl.1 rfl (Nat.le_of_ble_eq_true rfl) dX5_readItem_74 ⟨Nat.le_of_ble_eq_true rfl, Nat.le_of_ble_eq_true rfl⟩) ?_
          refine lv_if_eq (tgt := 86) hx hb dX5_readItem_77 (by decide) (fun c5 => ?_) (fun c5 => ?_)
          · skip
            have c5 := b2i_0 c5
            refine lv_aload_n hx hb dX5_readItem_86 rfl (lv_at hl 0 rfl) ?_
            refine rw_i (run_V (As := []) (rest := []) hC.1 ckX5_faultHere (kX5_faultHere_T l g x N f T) (gw_in m_477 rfl) (fb_rw _ _ _) (va_recv hK.1 (kP_app.mp hP).1 (q0 := 0) rfl rfl) (fun U hU hW => ⟨by rw [hU]; exact (kP_app.mpr ⟨(kP_app.mp hP).1, kP_nil⟩), kK_warm hW hK, vD_sub (sbA _ (sb0 _)) hD⟩) ⟨rfl, rfl, Nat.le_of_ble_eq_true rfl, Nat.le_of_ble_eq_true rfl⟩ rfl hl.1 rfl (Nat.le_of_ble_eq_true rfl) dX5_readItem_87 ⟨Nat.le_of_ble_eq_true rfl, Nat.le_of_ble_eq_true rfl⟩) (adr_app xT_adr rfl) (asc1 _ _) (ww' := xT g x N f (fhT N T) ++ (yW g a r ++ [])) (asc1 _ _) hP hD hS (fun H locs hP hD hS => ?_)
            exact ret_rwz hx hb hr hlk rfl (by unfold rdI; rw [if_neg (by rw [c1]; decide), if_neg (by rw [c2]; decide), if_neg (by rw [c3]; decide), if_neg (by rw [c4]; decide), if_neg (by rw [c5]; decide)]) (kP_eq (by unfold rdI; rw [if_neg (by rw [c1]; decide), if_neg (by rw [c2]; decide), if_neg (by rw [c3]; decide), if_neg (by rw [c4]; decide), if_neg (by rw [c5]; decide)]) hP) hS dX5_readItem_90
          · skip
            have c5 := b2i_1 c5
            refine lv_aload_n hx hb dX5_readItem_80 rfl (lv_at hl 0 rfl) ?_
            refine lv_aload_n hx hb dX5_readItem_81 rfl (lv_at hl 1 rfl) ?_
            refine rw_i (run_V (As := [.ref (a 0)]) (rest := []) hC.1 ckX5_readWait (kX5_readWait l g x N f T a r hN (hsb (sp_1 c5)).2 hw) (gw_in m_548 rfl) (fb_rw _ _ _) (va_recv hK.1 (kP_app.mp hP).1 (q0 := 0) rfl rfl) (fun U hU hW => ⟨by rw [hU]; exact (kP_app.mpr ⟨(kP_app.mp hP).1, (kP_app.mpr ⟨(kP_app.mp (kP_app.mp hP).2).1, kP_nil⟩)⟩), kK_warm hW hK, vD_sub (sbA _ (sbA _ (sb0 _))) hD⟩) ⟨rfl, rfl, Nat.le_of_ble_eq_true rfl, Nat.le_of_ble_eq_true rfl⟩ rfl hl.1 rfl (Nat.le_of_ble_eq_true rfl) dX5_readItem_82 ⟨Nat.le_of_ble_eq_true rfl, Nat.le_of_ble_eq_true rfl⟩) (adr_app xT_adr (adr_app yW_adr rfl)) (asc2 _ _ _) (ww' := xT g x N f (rdWait f N T r).2.1 ++ (yW g a (rdWait f N T r).2.2 ++ [])) (asc2 _ _ _) hP hD hS (fun H locs hP hD hS => ?_)
            exact ret_rwz hx hb hr hlk rfl (by unfold rdI; rw [if_neg (by rw [c1]; decide), if_neg (by rw [c2]; decide), if_neg (by rw [c3]; decide), if_neg (by rw [c4]; decide), if_pos c5]) (kP_eq (by unfold rdI; rw [if_neg (by rw [c1]; decide), if_neg (by rw [c2]; decide), if_neg (by rw [c3]; decide), if_neg (by rw [c4]; decide), if_pos c5]) hP) hS dX5_readItem_85
        · skip
          have c4 := b2i_1 c4
          refine lv_aload_n hx hb dX5_readItem_65 rfl (lv_at hl 0 rfl) ?_
          refine lv_aload_n hx hb dX5_readItem_66 rfl (lv_at hl 1 rfl) ?_
          refine rw_i (run_V (As := [.ref (a 0)]) (rest := []) hC.1 ckX5_readStrike (kX5_readStrike l g x N f T a r hN (hsb (sp_1 c4)).2 hw) (gw_in m_494 rfl) (fb_rw _ _ _) (va_recv hK.1 (kP_app.mp hP).1 (q0 := 0) rfl rfl) (fun U hU hW => ⟨by rw [hU]; exact (kP_app.mpr ⟨(kP_app.mp hP).1, (kP_app.mpr ⟨(kP_app.mp (kP_app.mp hP).2).1, kP_nil⟩)⟩), kK_warm hW hK, vD_sub (sbA _ (sbA _ (sb0 _))) hD⟩) ⟨rfl, rfl, Nat.le_of_ble_eq_true rfl, Nat.le_of_ble_eq_true rfl⟩ rfl hl.1 rfl (Nat.le_of_ble_eq_true rfl) dX5_readItem_67 ⟨Nat.le_of_ble_eq_true rfl, Nat.le_of_ble_eq_true rfl⟩) (adr_app xT_adr (adr_app yW_adr rfl)) (asc2 _ _ _) (ww' := xT g x N f (rdStk f N T r).2.1 ++ (yW g a (rdStk f N T r).2.2 ++ [])) (asc2 _ _ _) hP hD hS (fun H locs hP hD hS => ?_)
          exact ret_rwz hx hb hr hlk rfl (by unfold rdI; rw [if_neg (by rw [c1]; decide), if_neg (by rw [c2]; decide), if_neg (by rw [c3]; decide), if_pos c4]) (kP_eq (by unfold rdI; rw [if_neg (by rw [c1]; decide), if_neg (by rw [c2]; decide), if_neg (by rw [c3]; decide), if_pos c4]) hP) hS dX5_readItem_70
      · skip
        have c3 := b2i_1 c3
        refine lv_aload_n hx hb dX5_readItem_50 rfl (lv_at hl 0 rfl) ?_
        refine lv_aload_n hx hb dX5_readItem_51 rfl (lv_at hl 1 rfl) ?_
        refine rw_i (run_V (As := [.ref (a 0)]) (rest := []) hC.1 ckX5_readNut (kX5_readNut l g x N f T a r hN (hsb (sp_1 c3)).2 hw) (gw_in m_488 rfl) (fb_rw _ _ _) (va_recv hK.1 (kP_app.mp hP).1 (q0 := 0) rfl rfl) (fun U hU hW => ⟨by rw [hU]; exact (kP_app.mpr ⟨(kP_app.mp hP).1, (kP_app.mpr ⟨(kP_app.mp (kP_app.mp hP).2).1, kP_nil⟩)⟩), kK_warm hW hK, vD_sub (sbA _ (sbA _ (sb0 _))) hD⟩) ⟨rfl, rfl, Nat.le_of_ble_eq_true rfl, Nat.le_of_ble_eq_true rfl⟩ rfl hl.1 rfl (Nat.le_of_ble_eq_true rfl) dX5_readItem_52 ⟨Nat.le_of_ble_eq_true rfl, Nat.le_of_ble_eq_true rfl⟩) (adr_app xT_adr (adr_app yW_adr rfl)) (asc2 _ _ _) (ww' := xT g x N f (rdNut f N T r).2.1 ++ (yW g a (rdNut f N T r).2.2 ++ [])) (asc2 _ _ _) hP hD hS (fun H locs hP hD hS => ?_)
        exact ret_rwz hx hb hr hlk rfl (by unfold rdI; rw [if_neg (by rw [c1]; decide), if_neg (by rw [c2]; decide), if_pos c3]) (kP_eq (by unfold rdI; rw [if_neg (by rw [c1]; decide), if_neg (by rw [c2]; decide), if_pos c3]) hP) hS dX5_readItem_55
    · skip
      have c2 := b2i_1 c2
      refine lv_aload_n hx hb dX5_readItem_35 rfl (lv_at hl 0 rfl) ?_
      refine lv_aload_n hx hb dX5_readItem_36 rfl (lv_at hl 1 rfl) ?_
      refine rw_i (run_V (As := [.ref (a 0)]) (rest := []) hC.1 ckX5_readPlayer (kX5_readPlayer l g x N f T a r hN (hsb (sp_1 c2)).2 hw) (gw_in m_482 rfl) (fb_rw _ _ _) (va_recv hK.1 (kP_app.mp hP).1 (q0 := 0) rfl rfl) (fun U hU hW => ⟨by rw [hU]; exact (kP_app.mpr ⟨(kP_app.mp hP).1, (kP_app.mpr ⟨(kP_app.mp (kP_app.mp hP).2).1, kP_nil⟩)⟩), kK_warm hW hK, vD_sub (sbA _ (sbA _ (sb0 _))) hD⟩) ⟨rfl, rfl, Nat.le_of_ble_eq_true rfl, Nat.le_of_ble_eq_true rfl⟩ rfl hl.1 rfl (Nat.le_of_ble_eq_true rfl) dX5_readItem_37 ⟨Nat.le_of_ble_eq_true rfl, Nat.le_of_ble_eq_true rfl⟩) (adr_app xT_adr (adr_app yW_adr rfl)) (asc2 _ _ _) (ww' := xT g x N f (rdPl f N T r).2.1 ++ (yW g a (rdPl f N T r).2.2 ++ [])) (asc2 _ _ _) hP hD hS (fun H locs hP hD hS => ?_)
      exact ret_rwz hx hb hr hlk rfl (by unfold rdI; rw [if_neg (by rw [c1]; decide), if_pos c2]) (kP_eq (by unfold rdI; rw [if_neg (by rw [c1]; decide), if_pos c2]) hP) hS dX5_readItem_40
  · skip
    have c1 := b2i_1 c1
    refine lv_aload_n hx hb dX5_readItem_4 rfl (lv_at hl 0 rfl) ?_
    refine va_ldcS hx hb hown (hZ.2.2.2 0 (by decide)) dX5_readItem_5 ?_
    refine ro_i (run_V (As := [.ref (q9.1 0)]) (rest := []) hC.1 ckX5_spells (kX5_spells_T l g q9 x N f T 0 (by decide) hN hsb) (gw_in m_416 rfl) (fb_roS _ _ _ _) (va_recv hK.1 (kP_app.mp hP).1 (q0 := 0) rfl rfl) (fun U hU hW => ⟨⟨by rw [hU]; exact (kP_app.mp hP).1, kK_warm hW hK⟩, kS_go (fun _ h => h.elim) hZ hS hU hW⟩) ⟨rfl, rfl, Nat.le_of_ble_eq_true rfl, Nat.le_of_ble_eq_true rfl⟩ rfl hl.1 rfl (Nat.le_of_ble_eq_true rfl) dX5_readItem_7 ⟨Nat.le_of_ble_eq_true rfl, Nat.le_of_ble_eq_true rfl⟩) ?_
    refine lv_if_eq (tgt := 21) hx hb dX5_readItem_10 (by decide) (fun c6 => ?_) (fun c6 => ?_)
    · skip
      have c6 := b2i_0 c6
      refine lv_aload_n hx hb dX5_readItem_21 rfl (lv_at hl 0 rfl) ?_
      refine rw_i (run_V (As := []) (rest := []) hC.1 ckX5_faultHere (kX5_faultHere_T l g x N f T) (gw_in m_477 rfl) (fb_rw _ _ _) (va_recv hK.1 (kP_app.mp hP).1 (q0 := 0) rfl rfl) (fun U hU hW => ⟨by rw [hU]; exact (kP_app.mpr ⟨(kP_app.mp hP).1, kP_nil⟩), kK_warm hW hK, vD_sub (sbA _ (sb0 _)) hD⟩) ⟨rfl, rfl, Nat.le_of_ble_eq_true rfl, Nat.le_of_ble_eq_true rfl⟩ rfl hl.1 rfl (Nat.le_of_ble_eq_true rfl) dX5_readItem_22 ⟨Nat.le_of_ble_eq_true rfl, Nat.le_of_ble_eq_true rfl⟩) (adr_app xT_adr rfl) (asc1 _ _) (ww' := xT g x N f (fhT N T) ++ (yW g a r ++ [])) (asc1 _ _) hP hD hS (fun H locs hP hD hS => ?_)
      exact ret_rwz hx hb hr hlk rfl (by unfold rdI; rw [if_pos c1, if_neg (by rw [c6]; decide)]) (kP_eq (by unfold rdI; rw [if_pos c1, if_neg (by rw [c6]; decide)]) hP) hS dX5_readItem_25
    · skip
      have c6 := b2i_1 c6
      refine lv_aload_n hx hb dX5_readItem_13 rfl (lv_at hl 0 rfl) ?_
      refine lv_aload_n hx hb dX5_readItem_14 rfl (lv_at hl 1 rfl) ?_
      refine rw_i (run_V (As := [.ref (a 0)]) (rest := []) hC.1 ckX5_readNumber (kX5_readNumber l g x N f T a r hN (hsb (sp_1 c6)).2 hw) (gw_in m_468 rfl) (fb_rw _ _ _) (va_recv hK.1 (kP_app.mp hP).1 (q0 := 0) rfl rfl) (fun U hU hW => ⟨by rw [hU]; exact (kP_app.mpr ⟨(kP_app.mp hP).1, (kP_app.mpr ⟨(kP_app.mp (kP_app.mp hP).2).1, kP_nil⟩)⟩), kK_warm hW hK, vD_sub (sbA _ (sbA _ (sb0 _))) hD⟩) ⟨rfl, rfl, Nat.le_of_ble_eq_true rfl, Nat.le_of_ble_eq_true rfl⟩ rfl hl.1 rfl (Nat.le_of_ble_eq_true rfl) dX5_readItem_15 ⟨Nat.le_of_ble_eq_true rfl, Nat.le_of_ble_eq_true rfl⟩) (adr_app xT_adr (adr_app yW_adr rfl)) (asc2 _ _ _) (ww' := xT g x N f (rdNum f N T r).2.1 ++ (yW g a (rdNum f N T r).2.2 ++ [])) (asc2 _ _ _) hP hD hS (fun H locs hP hD hS => ?_)
      refine lv_goto (tgt := 25) hx hb dX5_readItem_18 (by decide) ?_
      exact ret_rwz hx hb hr hlk rfl (by unfold rdI; rw [if_pos c1, if_pos c6]) (kP_eq (by unfold rdI; rw [if_pos c1, if_pos c6]) hP) hS dX5_readItem_25
set_option maxHeartbeats 4000000 in
set_option maxRecDepth 100000 in
theorem kX5_readInto (l : Launch) (g : gG) (q9 : sQ) (x : Nat → Nat) (N : Nat) (f : Nat → Int32) (T : T5) (a : Nat → Nat) (r : Nat → Int32)  (hN : N ≤ 150) (hw : Wf r) : Met l yX5_readInto (.code yX5_readInto cX5_readInto 3 (some .int) :: gw) (rmN 7) (va_Pc [.ref (x 0), .ref (a 0)] (fun U => rwPre g (xT g x N f T ++ (yW g a r ++ [])) U ∧ kS q9 (dm (xT g x N f T ++ (yW g a r ++ []))) U U.heap)) (rwQi g (xT g x N f T ++ (yW g a r ++ [])) (xT g x N f (rdC f N 151 0 (0, T.2.1, T.2.2.1, 0, T.2.2.2.2) (upd (upd (upd r 1 0) 2 0) 0 0)).2.1 ++ (yW g a (rdC f N 151 0 (0, T.2.1, T.2.2.1, 0, T.2.2.2.2) (upd (upd (upd r 1 0) 2 0) 0 0)).2.2 ++ [])) (rdC f N 151 0 (0, T.2.1, T.2.2.1, 0, T.2.2.2.2) (upd (upd (upd r 1 0) 2 0) 0 0)).1) 0 0 (dm (xT g x N f T ++ (yW g a r ++ []))) := by
  refine met_start (by decide) (Nat.le_of_ble_eq_true rfl) ?_
  intro pp ee ss mm bl mt cd hC hpre ls hl
  obtain ⟨⟨hx, hb, hml, hown, hts⟩, hr, hlk, hnm⟩ := id hC
  have hl : lv_has ls 3 [(0, .ref (x 0)), (1, .ref (a 0))] := hl
  obtain ⟨⟨hP, hK, hD⟩, hZ⟩ := hpre
  have hS : va_S (dm (xT g x N f T ++ (yW g a r ++ []))) ss.heap ss.heap [] := va_S.rf
  have hD := vD_self hD
  refine lv_aload_n hx hb dX5_readInto_0 rfl (lv_at hl 1 rfl) ?_
  refine lv_iconst (v := 0) hx hb dX5_readInto_1 rfl ?_
  have hP : kP g (yW g a r ++ (xT g x N f T ++ [])) _ := kP_perm (pm_swap _ _ _) hP
  have hD : va_D _ (yW g a r ++ (xT g x N f T ++ [])) := vD_perm (pm_swap _ _ _) hD
  refine rw_v (run_V (As := [.int (0)]) (rest := []) hC.1 ckX7_restart (kX7_restart l g a r 0) (gw_in m_388 rfl) (fb_rw _ _ _) (va_recv hK.1 (kP_app.mp hP).1 (q0 := 0) rfl rfl) (fun U hU hW => ⟨by rw [hU]; exact (kP_app.mpr ⟨(kP_app.mp hP).1, kP_nil⟩), kK_warm hW hK, vD_sub (sbA _ (sb0 _)) hD⟩) ⟨rfl, rfl, Nat.le_of_ble_eq_true rfl, Nat.le_of_ble_eq_true rfl⟩ rfl hl.1 rfl (Nat.le_of_ble_eq_true rfl) dX5_readInto_2 ⟨Nat.le_of_ble_eq_true rfl, Nat.le_of_ble_eq_true rfl⟩) (adr_app yW_adr rfl) (asc1 _ _) (ww' := yW g a (upd (upd (upd r 1 0) 2 0) 0 0) ++ (xT g x N f T ++ [])) (asc1 _ _) hP hD hS (fun H locs hP hD hS => ?_)
  have hP : kP g (yW g a (upd (upd (upd r 1 0) 2 0) 0 0) ++ (xW g x N T.1 f T.2.1 T.2.2.1 T.2.2.2.1 T.2.2.2.2 ++ [])) _ := hP
  have hD : va_D _ (yW g a (upd (upd (upd r 1 0) 2 0) 0 0) ++ (xW g x N T.1 f T.2.1 T.2.2.1 T.2.2.2.1 T.2.2.2.2 ++ [])) := hD
  refine lv_aload_n hx hb dX5_readInto_5 rfl (lv_at hl 0 rfl) ?_
  refine lv_iconst (v := 0) hx hb dX5_readInto_6 rfl ?_
  have hP : kP g (xW g x N T.1 f T.2.1 T.2.2.1 T.2.2.2.1 T.2.2.2.2 ++ (yW g a (upd (upd (upd r 1 0) 2 0) 0 0) ++ [])) _ := kP_perm (pm_swap _ _ _) hP
  have hD : va_D _ (xW g x N T.1 f T.2.1 T.2.2.1 T.2.2.2.1 T.2.2.2.2 ++ (yW g a (upd (upd (upd r 1 0) 2 0) 0 0) ++ [])) := vD_perm (pm_swap _ _ _) hD
  refine kput (B' := xW g x N 0 f T.2.1 T.2.2.1 T.2.2.2.1 T.2.2.2.2) hC.1 hK hP hD hS 0 rfl rfl in_5 tyX5 tyX5_ok nmX5 1 (by decide) (gw_in m_210 rfl) rfl (ty := .int) (by decide +kernel) rfl rfl (Nat.le_of_ble_eq_true rfl) (fun _ h => h) xW_adr dX5_readInto_7 (fun H locs hP hD hS => ?_)
  refine lv_aload_n hx hb dX5_readInto_10 rfl (lv_at hl 0 rfl) ?_
  refine lv_iconst (v := 0) hx hb dX5_readInto_11 rfl ?_
  refine kput (B' := xW g x N 0 f T.2.1 T.2.2.1 0 T.2.2.2.2) hC.1 hK hP hD hS 0 rfl rfl in_5 tyX5 tyX5_ok nmX5 5 (by decide) (gw_in m_215 rfl) rfl (ty := .int) (by decide +kernel) rfl rfl (Nat.le_of_ble_eq_true rfl) (fun _ h => h) xW_adr dX5_readInto_12 (fun H locs hP hD hS => ?_)
  have hP : kP g (xT g x N f (0, T.2.1, T.2.2.1, 0, T.2.2.2.2) ++ (yW g a (upd (upd (upd r 1 0) 2 0) 0 0) ++ [])) _ := hP
  have hD : va_D _ (xT g x N f (0, T.2.1, T.2.2.1, 0, T.2.2.2.2) ++ (yW g a (upd (upd (upd r 1 0) 2 0) 0 0) ++ [])) := hD
  refine lv_iconst (v := 0) hx hb dX5_readInto_15 rfl ?_
  refine lv_istore_n (lv' := [(2, .int (0)), (0, .ref (x 0)), (1, .ref (a 0))]) hx hb dX5_readInto_16 rfl hl (by decide) rfl (fun ls hl => ?_)
  have cut17 : ∀ kk : Nat, ∀ (n : Nat) (U : T5) (q : Nat → Int32), 152 - n < kk → (hn : n ≤ 151) → (hbu : U.2.2.2.1 ≤ N) → (hwq : Wf q) → (he : rdC f N (151 - n) n U q = rdC f N 151 0 (0, T.2.1, T.2.2.1, 0, T.2.2.2.2) (upd (upd (upd r 1 0) 2 0) 0 0)) → ∀ (H : Heap) (locs : List Loc), kP g (xT g x N f U ++ (yW g a q ++ [])) H → va_D (dm (xT g x N f T ++ (yW g a r ++ []))) (xT g x N f U ++ (yW g a q ++ [])) → va_S (dm (xT g x N f T ++ (yW g a r ++ []))) ss.heap H locs → ∀ (ls : Array Slot), lv_has ls 3 [(0, .ref (x 0)), (1, .ref (a 0)), (2, .int (nI n))] → W pp l ee (rmN 7) ss mm ([.ref (x 0), .ref (a 0)] : List Value).toArray bl mt cd H locs 0 0 (MQ bl (rwQi g (xT g x N f T ++ (yW g a r ++ [])) (xT g x N f (rdC f N 151 0 (0, T.2.1, T.2.2.1, 0, T.2.2.2.2) (upd (upd (upd r 1 0) 2 0) 0 0)).2.1 ++ (yW g a (rdC f N 151 0 (0, T.2.1, T.2.2.1, 0, T.2.2.2.2) (upd (upd (upd r 1 0) 2 0) 0 0)).2.2 ++ [])) (rdC f N 151 0 (0, T.2.1, T.2.2.1, 0, T.2.2.2.2) (upd (upd (upd r 1 0) 2 0) 0 0)).1) ([.ref (x 0), .ref (a 0)] : List Value).toArray ss 0 0 (dm (xT g x N f T ++ (yW g a r ++ [])))) (F0 mm 17 ls []) := by
    intro kk
    induction kk with
    | zero => intro n U q hmu; exact absurd hmu (Nat.not_lt_zero _)
    | succ kk ih17 =>
      intro n U q hmu hn hbu hwq he H locs hP hD hS ls hl
      refine lv_iload_n hx hb dX5_readInto_17 rfl (lv_at hl 2 rfl) ?_
      refine lv_sipush (v := 150) hx hb dX5_readInto_18 rfl ?_
      refine lv_icmp_gt (tgt := 85) hx hb dX5_readInto_21 (by decide) (fun c1 => ?_) (fun c1 => ?_)
      · skip
        have c1' := Int32.not_le.mpr c1
        have hn9 : n = 151 := by have h9 := c1; rw [Int32.lt_iff_toInt_lt, nI_ti (by omega), show (150 : Int32).toInt = 150 from rfl] at h9; omega
        have hfin : rdC f N (151 - n) n U q = (-1, U, q) := by rw [hn9]; rfl
        refine lv_iconst (v := -1) hx hb dX5_readInto_85 rfl ?_
        exact ret_rwi hx hb hr hlk (by rw [← he, hfin]) (kP_eq (by rw [← he, hfin]) hP) hS dX5_readInto_86
      · skip
        have c1' := Int32.not_lt.mp c1
        have hn9 : n < 151 := by have h9 := c1; rw [Int32.lt_iff_toInt_lt, nI_ti (by omega), show (150 : Int32).toInt = 150 from rfl] at h9; omega
        refine lv_aload_n hx hb dX5_readInto_24 rfl (lv_at hl 0 rfl) ?_
        refine rw_v (run_V (As := []) (rest := []) hC.1 ckX5_nextToken (kX5_nextToken l g x N f U hN hbu) (gw_in m_389 rfl) (fb_rw _ _ _) (va_recv hK.1 (kP_app.mp hP).1 (q0 := 0) rfl rfl) (fun U hU hW => ⟨by rw [hU]; exact (kP_app.mpr ⟨(kP_app.mp hP).1, kP_nil⟩), kK_warm hW hK, vD_sub (sbA _ (sb0 _)) hD⟩) ⟨rfl, rfl, Nat.le_of_ble_eq_true rfl, Nat.le_of_ble_eq_true rfl⟩ rfl hl.1 rfl (Nat.le_of_ble_eq_true rfl) dX5_readInto_25 ⟨Nat.le_of_ble_eq_true rfl, Nat.le_of_ble_eq_true rfl⟩) (adr_app xT_adr rfl) (asc1 _ _) (ww' := xT g x N f (ntT f N U) ++ (yW g a q ++ [])) (asc1 _ _) hP hD hS (fun H locs hP hD hS => ?_)
        have hbs1 := nt_word (f := f) hbu
        refine lv_aload_n hx hb dX5_readInto_28 rfl (lv_at hl 0 rfl) ?_
        refine kget hC.1 hK (kP_app.mp hP).1 0 rfl rfl in_5 3 (by decide) (gw_in m_213 rfl) rfl dX5_readInto_29 ?_
        refine lv_if_ne (tgt := 41) hx hb dX5_readInto_32 (by decide) (fun c2 => ?_) (fun c2 => ?_)
        · skip
          refine lv_aload_n hx hb dX5_readInto_41 rfl (lv_at hl 0 rfl) ?_
          refine lv_aload_n hx hb dX5_readInto_42 rfl (lv_at hl 1 rfl) ?_
          refine lv_iload_n hx hb dX5_readInto_43 rfl (lv_at hl 2 rfl) ?_
          refine lv_if_ne (tgt := 51) hx hb dX5_readInto_44 (by decide) (fun c3 => ?_) (fun c3 => ?_)
          · skip
            have hn0 : ¬ n = 0 := fun e9 => c3 (by rw [e9]; rfl)
            refine lv_iconst (v := 0) hx hb dX5_readInto_51 rfl ?_
            refine top_i (x := 0) (y := b2i (decide (n = 0))) (by simp [b2i, hn0]) ?_
            refine rw_i (run_V (As := [.ref (a 0), .int (b2i (decide (n = 0)))]) (rest := []) hC.1 ckX5_readItem (kX5_readItem l g q9 x N f (ntT f N U) a q (decide (n = 0)) hN hbs1 hwq) (gw_in m_411 rfl) (fb_rwS _ _ _ _) (va_recv hK.1 (kP_app.mp hP).1 (q0 := 0) rfl rfl) (fun U hU hW => ⟨⟨by rw [hU]; exact (kP_app.mpr ⟨(kP_app.mp hP).1, (kP_app.mpr ⟨(kP_app.mp (kP_app.mp hP).2).1, kP_nil⟩)⟩), kK_warm hW hK, vD_sub (sbA _ (sbA _ (sb0 _))) hD⟩, kS_go (dm_sub (sbA _ (sbA _ (sb0 _))) hD) hZ hS hU hW⟩) ⟨rfl, rfl, Nat.le_of_ble_eq_true rfl, Nat.le_of_ble_eq_true rfl⟩ rfl hl.1 rfl (Nat.le_of_ble_eq_true rfl) dX5_readInto_52 ⟨Nat.le_of_ble_eq_true rfl, Nat.le_of_ble_eq_true rfl⟩) (adr_app xT_adr (adr_app yW_adr rfl)) (asc2 _ _ _) (ww' := xT g x N f (rdI f N (decide (n = 0)) (ntT f N U) q).2.1 ++ (yW g a (rdI f N (decide (n = 0)) (ntT f N U) q).2.2 ++ [])) (asc2 _ _ _) hP hD hS (fun H locs hP hD hS => ?_)
            refine lv_if_ne (tgt := 60) hx hb dX5_readInto_55 (by decide) (fun c4 => ?_) (fun c4 => ?_)
            · skip
              have c4 := b2i_1 c4
              have hok := c4
              have hD2 := (rdI_G (f := f) (b := decide (n = 0)) hbs1).1 hok
              refine lv_aload_n hx hb dX5_readInto_60 rfl (lv_at hl 0 rfl) ?_
              refine rw_v (run_V (As := []) (rest := []) hC.1 ckX5_nextToken (kX5_nextToken l g x N f (rdI f N (decide (n = 0)) (ntT f N U) q).2.1 hN hD2) (gw_in m_389 rfl) (fb_rw _ _ _) (va_recv hK.1 (kP_app.mp hP).1 (q0 := 0) rfl rfl) (fun U hU hW => ⟨by rw [hU]; exact (kP_app.mpr ⟨(kP_app.mp hP).1, kP_nil⟩), kK_warm hW hK, vD_sub (sbA _ (sb0 _)) hD⟩) ⟨rfl, rfl, Nat.le_of_ble_eq_true rfl, Nat.le_of_ble_eq_true rfl⟩ rfl hl.1 rfl (Nat.le_of_ble_eq_true rfl) dX5_readInto_61 ⟨Nat.le_of_ble_eq_true rfl, Nat.le_of_ble_eq_true rfl⟩) (adr_app xT_adr rfl) (asc1 _ _) (ww' := xT g x N f (ntT f N (rdI f N (decide (n = 0)) (ntT f N U) q).2.1) ++ (yW g a (rdI f N (decide (n = 0)) (ntT f N U) q).2.2 ++ [])) (asc1 _ _) hP hD hS (fun H locs hP hD hS => ?_)
              refine lv_aload_n hx hb dX5_readInto_64 rfl (lv_at hl 0 rfl) ?_
              refine kget hC.1 hK (kP_app.mp hP).1 0 rfl rfl in_5 3 (by decide) (gw_in m_213 rfl) rfl dX5_readInto_65 ?_
              refine lv_iconst (v := 3) hx hb dX5_readInto_68 rfl ?_
              refine lv_icmp_eq (tgt := 79) hx hb dX5_readInto_69 (by decide) (fun c5 => ?_) (fun c5 => ?_)
              · skip
                have hse := c5
                refine lv_iinc (v := nI (n + 1)) (lv' := [(2, .int (nI (n + 1))), (0, .ref (x 0)), (1, .ref (a 0))]) hx hb dX5_readInto_79 hl (k := 2) rfl (inc_nI n) (by decide) rfl (fun ls hl => ?_)
                refine lv_goto (tgt := 17) hx hb dX5_readInto_82 (by decide) ?_
                exact ih17 (n + 1) (ntT f N (rdI f N (decide (n = 0)) (ntT f N U) q).2.1) (rdI f N (decide (n = 0)) (ntT f N U) q).2.2 (by omega) (by omega) (nt_semi hD2 hse) ((rdI_G hbs1).2 hwq) ((rdC_go hn9 (fun h => absurd h.1 c2) hok hse).symm.trans he) _ _ hP hD hS _ (lv_sub hl [1, 2, 0] rfl)
              · skip
                have hfin : rdC f N (151 - n) n U q = (-1, fhT N (ntT f N (rdI f N (decide (n = 0)) (ntT f N U) q).2.1), (rdI f N (decide (n = 0)) (ntT f N U) q).2.2) := rdC_bad hn9 (fun h => absurd h.1 c2) hok c5
                refine lv_aload_n hx hb dX5_readInto_72 rfl (lv_at hl 0 rfl) ?_
                refine rw_i (run_V (As := []) (rest := []) hC.1 ckX5_faultHere (kX5_faultHere_T l g x N f (ntT f N (rdI f N (decide (n = 0)) (ntT f N U) q).2.1)) (gw_in m_477 rfl) (fb_rw _ _ _) (va_recv hK.1 (kP_app.mp hP).1 (q0 := 0) rfl rfl) (fun U hU hW => ⟨by rw [hU]; exact (kP_app.mpr ⟨(kP_app.mp hP).1, kP_nil⟩), kK_warm hW hK, vD_sub (sbA _ (sb0 _)) hD⟩) ⟨rfl, rfl, Nat.le_of_ble_eq_true rfl, Nat.le_of_ble_eq_true rfl⟩ rfl hl.1 rfl (Nat.le_of_ble_eq_true rfl) dX5_readInto_73 ⟨Nat.le_of_ble_eq_true rfl, Nat.le_of_ble_eq_true rfl⟩) (adr_app xT_adr rfl) (asc1 _ _) (ww' := xT g x N f (fhT N (ntT f N (rdI f N (decide (n = 0)) (ntT f N U) q).2.1)) ++ (yW g a (rdI f N (decide (n = 0)) (ntT f N U) q).2.2 ++ [])) (asc1 _ _) hP hD hS (fun H locs hP hD hS => ?_)
                refine lv_pop hx hb dX5_readInto_76 rfl ?_
                refine lv_iconst (v := -1) hx hb dX5_readInto_77 rfl ?_
                exact ret_rwi hx hb hr hlk (by rw [← he, hfin]) (kP_eq (by rw [← he, hfin]) hP) hS dX5_readInto_78
            · skip
              have c4 := b2i_0 c4
              have hok := c4
              have hfin : rdC f N (151 - n) n U q = (-1, (rdI f N (decide (n = 0)) (ntT f N U) q).2.1, (rdI f N (decide (n = 0)) (ntT f N U) q).2.2) := rdC_no hn9 (fun h => absurd h.1 c2) hok
              refine lv_iconst (v := -1) hx hb dX5_readInto_58 rfl ?_
              exact ret_rwi hx hb hr hlk (by rw [← he, hfin]) (kP_eq (by rw [← he, hfin]) hP) hS dX5_readInto_59
          · skip
            have hn0 : n = 0 := by rw [show (0 : Int32) = nI 0 from rfl, nI_eq (by omega) (by omega)] at c3; exact c3
            refine lv_iconst (v := 1) hx hb dX5_readInto_47 rfl ?_
            refine lv_goto (tgt := 52) hx hb dX5_readInto_48 (by decide) ?_
            refine top_i (x := 1) (y := b2i (decide (n = 0))) (by simp [b2i, hn0]) ?_
            refine rw_i (run_V (As := [.ref (a 0), .int (b2i (decide (n = 0)))]) (rest := []) hC.1 ckX5_readItem (kX5_readItem l g q9 x N f (ntT f N U) a q (decide (n = 0)) hN hbs1 hwq) (gw_in m_411 rfl) (fb_rwS _ _ _ _) (va_recv hK.1 (kP_app.mp hP).1 (q0 := 0) rfl rfl) (fun U hU hW => ⟨⟨by rw [hU]; exact (kP_app.mpr ⟨(kP_app.mp hP).1, (kP_app.mpr ⟨(kP_app.mp (kP_app.mp hP).2).1, kP_nil⟩)⟩), kK_warm hW hK, vD_sub (sbA _ (sbA _ (sb0 _))) hD⟩, kS_go (dm_sub (sbA _ (sbA _ (sb0 _))) hD) hZ hS hU hW⟩) ⟨rfl, rfl, Nat.le_of_ble_eq_true rfl, Nat.le_of_ble_eq_true rfl⟩ rfl hl.1 rfl (Nat.le_of_ble_eq_true rfl) dX5_readInto_52 ⟨Nat.le_of_ble_eq_true rfl, Nat.le_of_ble_eq_true rfl⟩) (adr_app xT_adr (adr_app yW_adr rfl)) (asc2 _ _ _) (ww' := xT g x N f (rdI f N (decide (n = 0)) (ntT f N U) q).2.1 ++ (yW g a (rdI f N (decide (n = 0)) (ntT f N U) q).2.2 ++ [])) (asc2 _ _ _) hP hD hS (fun H locs hP hD hS => ?_)
            refine lv_if_ne (tgt := 60) hx hb dX5_readInto_55 (by decide) (fun c6 => ?_) (fun c6 => ?_)
            · skip
              have c6 := b2i_1 c6
              have hok := c6
              have hD2 := (rdI_G (f := f) (b := decide (n = 0)) hbs1).1 hok
              refine lv_aload_n hx hb dX5_readInto_60 rfl (lv_at hl 0 rfl) ?_
              refine rw_v (run_V (As := []) (rest := []) hC.1 ckX5_nextToken (kX5_nextToken l g x N f (rdI f N (decide (n = 0)) (ntT f N U) q).2.1 hN hD2) (gw_in m_389 rfl) (fb_rw _ _ _) (va_recv hK.1 (kP_app.mp hP).1 (q0 := 0) rfl rfl) (fun U hU hW => ⟨by rw [hU]; exact (kP_app.mpr ⟨(kP_app.mp hP).1, kP_nil⟩), kK_warm hW hK, vD_sub (sbA _ (sb0 _)) hD⟩) ⟨rfl, rfl, Nat.le_of_ble_eq_true rfl, Nat.le_of_ble_eq_true rfl⟩ rfl hl.1 rfl (Nat.le_of_ble_eq_true rfl) dX5_readInto_61 ⟨Nat.le_of_ble_eq_true rfl, Nat.le_of_ble_eq_true rfl⟩) (adr_app xT_adr rfl) (asc1 _ _) (ww' := xT g x N f (ntT f N (rdI f N (decide (n = 0)) (ntT f N U) q).2.1) ++ (yW g a (rdI f N (decide (n = 0)) (ntT f N U) q).2.2 ++ [])) (asc1 _ _) hP hD hS (fun H locs hP hD hS => ?_)
              refine lv_aload_n hx hb dX5_readInto_64 rfl (lv_at hl 0 rfl) ?_
              refine kget hC.1 hK (kP_app.mp hP).1 0 rfl rfl in_5 3 (by decide) (gw_in m_213 rfl) rfl dX5_readInto_65 ?_
              refine lv_iconst (v := 3) hx hb dX5_readInto_68 rfl ?_
              refine lv_icmp_eq (tgt := 79) hx hb dX5_readInto_69 (by decide) (fun c7 => ?_) (fun c7 => ?_)
              · skip
                have hse := c7
                refine lv_iinc (v := nI (n + 1)) (lv' := [(2, .int (nI (n + 1))), (0, .ref (x 0)), (1, .ref (a 0))]) hx hb dX5_readInto_79 hl (k := 2) rfl (inc_nI n) (by decide) rfl (fun ls hl => ?_)
                refine lv_goto (tgt := 17) hx hb dX5_readInto_82 (by decide) ?_
                exact ih17 (n + 1) (ntT f N (rdI f N (decide (n = 0)) (ntT f N U) q).2.1) (rdI f N (decide (n = 0)) (ntT f N U) q).2.2 (by omega) (by omega) (nt_semi hD2 hse) ((rdI_G hbs1).2 hwq) ((rdC_go hn9 (fun h => absurd h.1 c2) hok hse).symm.trans he) _ _ hP hD hS _ (lv_sub hl [1, 2, 0] rfl)
              · skip
                have hfin : rdC f N (151 - n) n U q = (-1, fhT N (ntT f N (rdI f N (decide (n = 0)) (ntT f N U) q).2.1), (rdI f N (decide (n = 0)) (ntT f N U) q).2.2) := rdC_bad hn9 (fun h => absurd h.1 c2) hok c7
                refine lv_aload_n hx hb dX5_readInto_72 rfl (lv_at hl 0 rfl) ?_
                refine rw_i (run_V (As := []) (rest := []) hC.1 ckX5_faultHere (kX5_faultHere_T l g x N f (ntT f N (rdI f N (decide (n = 0)) (ntT f N U) q).2.1)) (gw_in m_477 rfl) (fb_rw _ _ _) (va_recv hK.1 (kP_app.mp hP).1 (q0 := 0) rfl rfl) (fun U hU hW => ⟨by rw [hU]; exact (kP_app.mpr ⟨(kP_app.mp hP).1, kP_nil⟩), kK_warm hW hK, vD_sub (sbA _ (sb0 _)) hD⟩) ⟨rfl, rfl, Nat.le_of_ble_eq_true rfl, Nat.le_of_ble_eq_true rfl⟩ rfl hl.1 rfl (Nat.le_of_ble_eq_true rfl) dX5_readInto_73 ⟨Nat.le_of_ble_eq_true rfl, Nat.le_of_ble_eq_true rfl⟩) (adr_app xT_adr rfl) (asc1 _ _) (ww' := xT g x N f (fhT N (ntT f N (rdI f N (decide (n = 0)) (ntT f N U) q).2.1)) ++ (yW g a (rdI f N (decide (n = 0)) (ntT f N U) q).2.2 ++ [])) (asc1 _ _) hP hD hS (fun H locs hP hD hS => ?_)
                refine lv_pop hx hb dX5_readInto_76 rfl ?_
                refine lv_iconst (v := -1) hx hb dX5_readInto_77 rfl ?_
                exact ret_rwi hx hb hr hlk (by rw [← he, hfin]) (kP_eq (by rw [← he, hfin]) hP) hS dX5_readInto_78
            · skip
              have c6 := b2i_0 c6
              have hok := c6
              have hfin : rdC f N (151 - n) n U q = (-1, (rdI f N (decide (n = 0)) (ntT f N U) q).2.1, (rdI f N (decide (n = 0)) (ntT f N U) q).2.2) := rdC_no hn9 (fun h => absurd h.1 c2) hok
              refine lv_iconst (v := -1) hx hb dX5_readInto_58 rfl ?_
              exact ret_rwi hx hb hr hlk (by rw [← he, hfin]) (kP_eq (by rw [← he, hfin]) hP) hS dX5_readInto_59
        · skip
          refine lv_iload_n hx hb dX5_readInto_35 rfl (lv_at hl 2 rfl) ?_
          refine lv_if_le (tgt := 41) hx hb dX5_readInto_36 (by decide) (fun c8 => ?_) (fun c8 => ?_)
          · skip
            have c8' := Int32.not_lt.mpr c8
            refine lv_aload_n hx hb dX5_readInto_41 rfl (lv_at hl 0 rfl) ?_
            refine lv_aload_n hx hb dX5_readInto_42 rfl (lv_at hl 1 rfl) ?_
            refine lv_iload_n hx hb dX5_readInto_43 rfl (lv_at hl 2 rfl) ?_
            refine lv_if_ne (tgt := 51) hx hb dX5_readInto_44 (by decide) (fun c9 => ?_) (fun c9 => ?_)
            · skip
              have hn0 : ¬ n = 0 := fun e9 => c9 (by rw [e9]; rfl)
              refine lv_iconst (v := 0) hx hb dX5_readInto_51 rfl ?_
              refine top_i (x := 0) (y := b2i (decide (n = 0))) (by simp [b2i, hn0]) ?_
              refine rw_i (run_V (As := [.ref (a 0), .int (b2i (decide (n = 0)))]) (rest := []) hC.1 ckX5_readItem (kX5_readItem l g q9 x N f (ntT f N U) a q (decide (n = 0)) hN hbs1 hwq) (gw_in m_411 rfl) (fb_rwS _ _ _ _) (va_recv hK.1 (kP_app.mp hP).1 (q0 := 0) rfl rfl) (fun U hU hW => ⟨⟨by rw [hU]; exact (kP_app.mpr ⟨(kP_app.mp hP).1, (kP_app.mpr ⟨(kP_app.mp (kP_app.mp hP).2).1, kP_nil⟩)⟩), kK_warm hW hK, vD_sub (sbA _ (sbA _ (sb0 _))) hD⟩, kS_go (dm_sub (sbA _ (sbA _ (sb0 _))) hD) hZ hS hU hW⟩) ⟨rfl, rfl, Nat.le_of_ble_eq_true rfl, Nat.le_of_ble_eq_true rfl⟩ rfl hl.1 rfl (Nat.le_of_ble_eq_true rfl) dX5_readInto_52 ⟨Nat.le_of_ble_eq_true rfl, Nat.le_of_ble_eq_true rfl⟩) (adr_app xT_adr (adr_app yW_adr rfl)) (asc2 _ _ _) (ww' := xT g x N f (rdI f N (decide (n = 0)) (ntT f N U) q).2.1 ++ (yW g a (rdI f N (decide (n = 0)) (ntT f N U) q).2.2 ++ [])) (asc2 _ _ _) hP hD hS (fun H locs hP hD hS => ?_)
              refine lv_if_ne (tgt := 60) hx hb dX5_readInto_55 (by decide) (fun c10 => ?_) (fun c10 => ?_)
              · skip
                have c10 := b2i_1 c10
                have hok := c10
                have hD2 := (rdI_G (f := f) (b := decide (n = 0)) hbs1).1 hok
                refine lv_aload_n hx hb dX5_readInto_60 rfl (lv_at hl 0 rfl) ?_
                refine rw_v (run_V (As := []) (rest := []) hC.1 ckX5_nextToken (kX5_nextToken l g x N f (rdI f N (decide (n = 0)) (ntT f N U) q).2.1 hN hD2) (gw_in m_389 rfl) (fb_rw _ _ _) (va_recv hK.1 (kP_app.mp hP).1 (q0 := 0) rfl rfl) (fun U hU hW => ⟨by rw [hU]; exact (kP_app.mpr ⟨(kP_app.mp hP).1, kP_nil⟩), kK_warm hW hK, vD_sub (sbA _ (sb0 _)) hD⟩) ⟨rfl, rfl, Nat.le_of_ble_eq_true rfl, Nat.le_of_ble_eq_true rfl⟩ rfl hl.1 rfl (Nat.le_of_ble_eq_true rfl) dX5_readInto_61 ⟨Nat.le_of_ble_eq_true rfl, Nat.le_of_ble_eq_true rfl⟩) (adr_app xT_adr rfl) (asc1 _ _) (ww' := xT g x N f (ntT f N (rdI f N (decide (n = 0)) (ntT f N U) q).2.1) ++ (yW g a (rdI f N (decide (n = 0)) (ntT f N U) q).2.2 ++ [])) (asc1 _ _) hP hD hS (fun H locs hP hD hS => ?_)
                refine lv_aload_n hx hb dX5_readInto_64 rfl (lv_at hl 0 rfl) ?_
                refine kget hC.1 hK (kP_app.mp hP).1 0 rfl rfl in_5 3 (by decide) (gw_in m_213 rfl) rfl dX5_readInto_65 ?_
                refine lv_iconst (v := 3) hx hb dX5_readInto_68 rfl ?_
                refine lv_icmp_eq (tgt := 79) hx hb dX5_readInto_69 (by decide) (fun c11 => ?_) (fun c11 => ?_)
                · skip
                  have hse := c11
                  refine lv_iinc (v := nI (n + 1)) (lv' := [(2, .int (nI (n + 1))), (0, .ref (x 0)), (1, .ref (a 0))]) hx hb dX5_readInto_79 hl (k := 2) rfl (inc_nI n) (by decide) rfl (fun ls hl => ?_)
                  refine lv_goto (tgt := 17) hx hb dX5_readInto_82 (by decide) ?_
                  exact ih17 (n + 1) (ntT f N (rdI f N (decide (n = 0)) (ntT f N U) q).2.1) (rdI f N (decide (n = 0)) (ntT f N U) q).2.2 (by omega) (by omega) (nt_semi hD2 hse) ((rdI_G hbs1).2 hwq) ((rdC_go hn9 (fun h => by have h8 := h.2; have h9 := c8; rw [show (0 : Int32) = nI 0 from rfl, nI_leI (by omega) (by omega)] at h9; omega) hok hse).symm.trans he) _ _ hP hD hS _ (lv_sub hl [1, 2, 0] rfl)
                · skip
                  have hfin : rdC f N (151 - n) n U q = (-1, fhT N (ntT f N (rdI f N (decide (n = 0)) (ntT f N U) q).2.1), (rdI f N (decide (n = 0)) (ntT f N U) q).2.2) := rdC_bad hn9 (fun h => by have h8 := h.2; have h9 := c8; rw [show (0 : Int32) = nI 0 from rfl, nI_leI (by omega) (by omega)] at h9; omega) hok c11
                  refine lv_aload_n hx hb dX5_readInto_72 rfl (lv_at hl 0 rfl) ?_
                  refine rw_i (run_V (As := []) (rest := []) hC.1 ckX5_faultHere (kX5_faultHere_T l g x N f (ntT f N (rdI f N (decide (n = 0)) (ntT f N U) q).2.1)) (gw_in m_477 rfl) (fb_rw _ _ _) (va_recv hK.1 (kP_app.mp hP).1 (q0 := 0) rfl rfl) (fun U hU hW => ⟨by rw [hU]; exact (kP_app.mpr ⟨(kP_app.mp hP).1, kP_nil⟩), kK_warm hW hK, vD_sub (sbA _ (sb0 _)) hD⟩) ⟨rfl, rfl, Nat.le_of_ble_eq_true rfl, Nat.le_of_ble_eq_true rfl⟩ rfl hl.1 rfl (Nat.le_of_ble_eq_true rfl) dX5_readInto_73 ⟨Nat.le_of_ble_eq_true rfl, Nat.le_of_ble_eq_true rfl⟩) (adr_app xT_adr rfl) (asc1 _ _) (ww' := xT g x N f (fhT N (ntT f N (rdI f N (decide (n = 0)) (ntT f N U) q).2.1)) ++ (yW g a (rdI f N (decide (n = 0)) (ntT f N U) q).2.2 ++ [])) (asc1 _ _) hP hD hS (fun H locs hP hD hS => ?_)
                  refine lv_pop hx hb dX5_readInto_76 rfl ?_
                  refine lv_iconst (v := -1) hx hb dX5_readInto_77 rfl ?_
                  exact ret_rwi hx hb hr hlk (by rw [← he, hfin]) (kP_eq (by rw [← he, hfin]) hP) hS dX5_readInto_78
              · skip
                have c10 := b2i_0 c10
                have hok := c10
                have hfin : rdC f N (151 - n) n U q = (-1, (rdI f N (decide (n = 0)) (ntT f N U) q).2.1, (rdI f N (decide (n = 0)) (ntT f N U) q).2.2) := rdC_no hn9 (fun h => by have h8 := h.2; have h9 := c8; rw [show (0 : Int32) = nI 0 from rfl, nI_leI (by omega) (by omega)] at h9; omega) hok
                refine lv_iconst (v := -1) hx hb dX5_readInto_58 rfl ?_
                exact ret_rwi hx hb hr hlk (by rw [← he, hfin]) (kP_eq (by rw [← he, hfin]) hP) hS dX5_readInto_59
            · skip
              have hn0 : n = 0 := by rw [show (0 : Int32) = nI 0 from rfl, nI_eq (by omega) (by omega)] at c9; exact c9
              refine lv_iconst (v := 1) hx hb dX5_readInto_47 rfl ?_
              refine lv_goto (tgt := 52) hx hb dX5_readInto_48 (by decide) ?_
              refine top_i (x := 1) (y := b2i (decide (n = 0))) (by simp [b2i, hn0]) ?_
              refine rw_i (run_V (As := [.ref (a 0), .int (b2i (decide (n = 0)))]) (rest := []) hC.1 ckX5_readItem (kX5_readItem l g q9 x N f (ntT f N U) a q (decide (n = 0)) hN hbs1 hwq) (gw_in m_411 rfl) (fb_rwS _ _ _ _) (va_recv hK.1 (kP_app.mp hP).1 (q0 := 0) rfl rfl) (fun U hU hW => ⟨⟨by rw [hU]; exact (kP_app.mpr ⟨(kP_app.mp hP).1, (kP_app.mpr ⟨(kP_app.mp (kP_app.mp hP).2).1, kP_nil⟩)⟩), kK_warm hW hK, vD_sub (sbA _ (sbA _ (sb0 _))) hD⟩, kS_go (dm_sub (sbA _ (sbA _ (sb0 _))) hD) hZ hS hU hW⟩) ⟨rfl, rfl, Nat.le_of_ble_eq_true rfl, Nat.le_of_ble_eq_true rfl⟩ rfl hl.1 rfl (Nat.le_of_ble_eq_true rfl) dX5_readInto_52 ⟨Nat.le_of_ble_eq_true rfl, Nat.le_of_ble_eq_true rfl⟩) (adr_app xT_adr (adr_app yW_adr rfl)) (asc2 _ _ _) (ww' := xT g x N f (rdI f N (decide (n = 0)) (ntT f N U) q).2.1 ++ (yW g a (rdI f N (decide (n = 0)) (ntT f N U) q).2.2 ++ [])) (asc2 _ _ _) hP hD hS (fun H locs hP hD hS => ?_)
              refine lv_if_ne (tgt := 60) hx hb dX5_readInto_55 (by decide) (fun c12 => ?_) (fun c12 => ?_)
              · skip
                have c12 := b2i_1 c12
                have hok := c12
                have hD2 := (rdI_G (f := f) (b := decide (n = 0)) hbs1).1 hok
                refine lv_aload_n hx hb dX5_readInto_60 rfl (lv_at hl 0 rfl) ?_
                refine rw_v (run_V (As := []) (rest := []) hC.1 ckX5_nextToken (kX5_nextToken l g x N f (rdI f N (decide (n = 0)) (ntT f N U) q).2.1 hN hD2) (gw_in m_389 rfl) (fb_rw _ _ _) (va_recv hK.1 (kP_app.mp hP).1 (q0 := 0) rfl rfl) (fun U hU hW => ⟨by rw [hU]; exact (kP_app.mpr ⟨(kP_app.mp hP).1, kP_nil⟩), kK_warm hW hK, vD_sub (sbA _ (sb0 _)) hD⟩) ⟨rfl, rfl, Nat.le_of_ble_eq_true rfl, Nat.le_of_ble_eq_true rfl⟩ rfl hl.1 rfl (Nat.le_of_ble_eq_true rfl) dX5_readInto_61 ⟨Nat.le_of_ble_eq_true rfl, Nat.le_of_ble_eq_true rfl⟩) (adr_app xT_adr rfl) (asc1 _ _) (ww' := xT g x N f (ntT f N (rdI f N (decide (n = 0)) (ntT f N U) q).2.1) ++ (yW g a (rdI f N (decide (n = 0)) (ntT f N U) q).2.2 ++ [])) (asc1 _ _) hP hD hS (fun H locs hP hD hS => ?_)
                refine lv_aload_n hx hb dX5_readInto_64 rfl (lv_at hl 0 rfl) ?_
                refine kget hC.1 hK (kP_app.mp hP).1 0 rfl rfl in_5 3 (by decide) (gw_in m_213 rfl) rfl dX5_readInto_65 ?_
                refine lv_iconst (v := 3) hx hb dX5_readInto_68 rfl ?_
                refine lv_icmp_eq (tgt := 79) hx hb dX5_readInto_69 (by decide) (fun c13 => ?_) (fun c13 => ?_)
                · skip
                  have hse := c13
                  refine lv_iinc (v := nI (n + 1)) (lv' := [(2, .int (nI (n + 1))), (0, .ref (x 0)), (1, .ref (a 0))]) hx hb dX5_readInto_79 hl (k := 2) rfl (inc_nI n) (by decide) rfl (fun ls hl => ?_)
                  refine lv_goto (tgt := 17) hx hb dX5_readInto_82 (by decide) ?_
                  exact ih17 (n + 1) (ntT f N (rdI f N (decide (n = 0)) (ntT f N U) q).2.1) (rdI f N (decide (n = 0)) (ntT f N U) q).2.2 (by omega) (by omega) (nt_semi hD2 hse) ((rdI_G hbs1).2 hwq) ((rdC_go hn9 (fun h => by have h8 := h.2; have h9 := c8; rw [show (0 : Int32) = nI 0 from rfl, nI_leI (by omega) (by omega)] at h9; omega) hok hse).symm.trans he) _ _ hP hD hS _ (lv_sub hl [1, 2, 0] rfl)
                · skip
                  have hfin : rdC f N (151 - n) n U q = (-1, fhT N (ntT f N (rdI f N (decide (n = 0)) (ntT f N U) q).2.1), (rdI f N (decide (n = 0)) (ntT f N U) q).2.2) := rdC_bad hn9 (fun h => by have h8 := h.2; have h9 := c8; rw [show (0 : Int32) = nI 0 from rfl, nI_leI (by omega) (by omega)] at h9; omega) hok c13
                  refine lv_aload_n hx hb dX5_readInto_72 rfl (lv_at hl 0 rfl) ?_
                  refine rw_i (run_V (As := []) (rest := []) hC.1 ckX5_faultHere (kX5_faultHere_T l g x N f (ntT f N (rdI f N (decide (n = 0)) (ntT f N U) q).2.1)) (gw_in m_477 rfl) (fb_rw _ _ _) (va_recv hK.1 (kP_app.mp hP).1 (q0 := 0) rfl rfl) (fun U hU hW => ⟨by rw [hU]; exact (kP_app.mpr ⟨(kP_app.mp hP).1, kP_nil⟩), kK_warm hW hK, vD_sub (sbA _ (sb0 _)) hD⟩) ⟨rfl, rfl, Nat.le_of_ble_eq_true rfl, Nat.le_of_ble_eq_true rfl⟩ rfl hl.1 rfl (Nat.le_of_ble_eq_true rfl) dX5_readInto_73 ⟨Nat.le_of_ble_eq_true rfl, Nat.le_of_ble_eq_true rfl⟩) (adr_app xT_adr rfl) (asc1 _ _) (ww' := xT g x N f (fhT N (ntT f N (rdI f N (decide (n = 0)) (ntT f N U) q).2.1)) ++ (yW g a (rdI f N (decide (n = 0)) (ntT f N U) q).2.2 ++ [])) (asc1 _ _) hP hD hS (fun H locs hP hD hS => ?_)
                  refine lv_pop hx hb dX5_readInto_76 rfl ?_
                  refine lv_iconst (v := -1) hx hb dX5_readInto_77 rfl ?_
                  exact ret_rwi hx hb hr hlk (by rw [← he, hfin]) (kP_eq (by rw [← he, hfin]) hP) hS dX5_readInto_78
              · skip
                have c12 := b2i_0 c12
                have hok := c12
                have hfin : rdC f N (151 - n) n U q = (-1, (rdI f N (decide (n = 0)) (ntT f N U) q).2.1, (rdI f N (decide (n = 0)) (ntT f N U) q).2.2) := rdC_no hn9 (fun h => by have h8 := h.2; have h9 := c8; rw [show (0 : Int32) = nI 0 from rfl, nI_leI (by omega) (by omega)] at h9; omega) hok
                refine lv_iconst (v := -1) hx hb dX5_readInto_58 rfl ?_
                exact ret_rwi hx hb hr hlk (by rw [← he, hfin]) (kP_eq (by rw [← he, hfin]) hP) hS dX5_readInto_59
          · skip
            have c8' := Int32.not_le.mp c8
            have hfin : rdC f N (151 - n) n U q = (nI n, (ntT f N U), q) := rdC_end hn9 ⟨c2, by have h9 := c8; rw [show (0 : Int32) = nI 0 from rfl, nI_leI (by omega) (by omega)] at h9; omega⟩
            refine lv_iload_n hx hb dX5_readInto_39 rfl (lv_at hl 2 rfl) ?_
            exact ret_rwi hx hb hr hlk (by rw [← he, hfin]) (kP_eq (by rw [← he, hfin]) hP) hS dX5_readInto_40
  exact cut17 _ 0 (0, T.2.1, T.2.2.1, 0, T.2.2.2.2) (upd (upd (upd r 1 0) 2 0) 0 0) (Nat.lt_succ_self _) (by omega) (Nat.zero_le _) (Wf_z0 hw) rfl _ _ hP hD hS _ (lv_sub hl [1, 2, 0] rfl)
set_option maxHeartbeats 4000000 in
set_option maxRecDepth 100000 in
theorem kX8_read (l : Launch) (g : gG) (q9 : sQ) (x : Nat → Nat) (im gu : Nat) (ab be : Int64) (tb tn tf : Int32) (a ay ap b1 b2 b3 : Nat → Nat) (r : Nat → Int32) (N : Nat) (f : Nat → Int32) (N1 N2 N3 : Nat) (l1 l2 l3 : Int32) (f1 f2 f3 : Nat → Int32) (e : Nat → Nat) (tN : Nat) (tx : Nat → Int32) (T : T5) (t c : Nat → Nat) (sg : Nat → Nat) (bs bc : Int32) (p1 p2 p3 p4 p5 rg : Nat → Int32)  (hN : tN ≤ 150) (hg : Wf rg) : Met l yX8_read (.code yX8_read cX8_read 3 (some .int) :: gw) (rmN 8) (va_Pc [.ref (x 0)] (fun U => rwPre g (cO g x (a 0) im (e 0) (t 0) gu ab be tb tn tf ++ (gW g a (ay 0) (ap 0) (b1 0) (b2 0) (b3 0) ++ (yW g ay r ++ (pW g ap N f ++ (rW g b1 N1 l1 f1 ++ (rW g b2 N2 l2 f2 ++ (rW g b3 N3 l3 f3 ++ (xT g e tN tx T ++ (tW g t (c 0) sg bs bc p1 p2 p3 p4 p5 ++ (yW g c rg ++ [])))))))))) U ∧ kS q9 (dm (cO g x (a 0) im (e 0) (t 0) gu ab be tb tn tf ++ (gW g a (ay 0) (ap 0) (b1 0) (b2 0) (b3 0) ++ (yW g ay r ++ (pW g ap N f ++ (rW g b1 N1 l1 f1 ++ (rW g b2 N2 l2 f2 ++ (rW g b3 N3 l3 f3 ++ (xT g e tN tx T ++ (tW g t (c 0) sg bs bc p1 p2 p3 p4 p5 ++ (yW g c rg ++ []))))))))))) U U.heap)) (rwQi g (cO g x (a 0) im (e 0) (t 0) gu ab be tb tn tf ++ (gW g a (ay 0) (ap 0) (b1 0) (b2 0) (b3 0) ++ (yW g ay r ++ (pW g ap N f ++ (rW g b1 N1 l1 f1 ++ (rW g b2 N2 l2 f2 ++ (rW g b3 N3 l3 f3 ++ (xT g e tN tx T ++ (tW g t (c 0) sg bs bc p1 p2 p3 p4 p5 ++ (yW g c rg ++ [])))))))))) (cO g x (a 0) im (e 0) (t 0) gu ab be tb tn tf ++ (gW g a (ay 0) (ap 0) (b1 0) (b2 0) (b3 0) ++ (yW g ay (if (rdC tx tN 151 0 (0, T.2.1, T.2.2.1, 0, T.2.2.2.2) (upd (upd (upd rg 1 0) 2 0) 0 0)).1 = -1 then r else (rdC tx tN 151 0 (0, T.2.1, T.2.2.1, 0, T.2.2.2.2) (upd (upd (upd rg 1 0) 2 0) 0 0)).2.2) ++ (pW g ap (if (rdC tx tN 151 0 (0, T.2.1, T.2.2.1, 0, T.2.2.2.2) (upd (upd (upd rg 1 0) 2 0) 0 0)).1 = -1 then N else 0) f ++ (rW g b1 (if (rdC tx tN 151 0 (0, T.2.1, T.2.2.1, 0, T.2.2.2.2) (upd (upd (upd rg 1 0) 2 0) 0 0)).1 = -1 then N1 else 0) l1 f1 ++ (rW g b2 (if (rdC tx tN 151 0 (0, T.2.1, T.2.2.1, 0, T.2.2.2.2) (upd (upd (upd rg 1 0) 2 0) 0 0)).1 = -1 then N2 else 0) l2 f2 ++ (rW g b3 (if (rdC tx tN 151 0 (0, T.2.1, T.2.2.1, 0, T.2.2.2.2) (upd (upd (upd rg 1 0) 2 0) 0 0)).1 = -1 then N3 else 0) l3 f3 ++ (xT g e tN tx (rdC tx tN 151 0 (0, T.2.1, T.2.2.1, 0, T.2.2.2.2) (upd (upd (upd rg 1 0) 2 0) 0 0)).2.1 ++ (tW g t (c 0) sg bs bc p1 p2 p3 p4 p5 ++ (yW g c (rdC tx tN 151 0 (0, T.2.1, T.2.2.1, 0, T.2.2.2.2) (upd (upd (upd rg 1 0) 2 0) 0 0)).2.2 ++ [])))))))))) (if (rdC tx tN 151 0 (0, T.2.1, T.2.2.1, 0, T.2.2.2.2) (upd (upd (upd rg 1 0) 2 0) 0 0)).1 = -1 then -10 - (rdC tx tN 151 0 (0, T.2.1, T.2.2.1, 0, T.2.2.2.2) (upd (upd (upd rg 1 0) 2 0) 0 0)).2.1.1 else (rdC tx tN 151 0 (0, T.2.1, T.2.2.1, 0, T.2.2.2.2) (upd (upd (upd rg 1 0) 2 0) 0 0)).1)) 0 0 (dm (cO g x (a 0) im (e 0) (t 0) gu ab be tb tn tf ++ (gW g a (ay 0) (ap 0) (b1 0) (b2 0) (b3 0) ++ (yW g ay r ++ (pW g ap N f ++ (rW g b1 N1 l1 f1 ++ (rW g b2 N2 l2 f2 ++ (rW g b3 N3 l3 f3 ++ (xT g e tN tx T ++ (tW g t (c 0) sg bs bc p1 p2 p3 p4 p5 ++ (yW g c rg ++ []))))))))))) := by
  refine met_start (by decide) (Nat.le_of_ble_eq_true rfl) ?_
  intro pp ee ss mm bl mt cd hC hpre ls hl
  obtain ⟨⟨hx, hb, hml, hown, hts⟩, hr, hlk, hnm⟩ := id hC
  have hl : lv_has ls 3 [(0, .ref (x 0))] := hl
  obtain ⟨⟨hP, hK, hD⟩, hZ⟩ := hpre
  have hS : va_S (dm (cO g x (a 0) im (e 0) (t 0) gu ab be tb tn tf ++ (gW g a (ay 0) (ap 0) (b1 0) (b2 0) (b3 0) ++ (yW g ay r ++ (pW g ap N f ++ (rW g b1 N1 l1 f1 ++ (rW g b2 N2 l2 f2 ++ (rW g b3 N3 l3 f3 ++ (xT g e tN tx T ++ (tW g t (c 0) sg bs bc p1 p2 p3 p4 p5 ++ (yW g c rg ++ []))))))))))) ss.heap ss.heap [] := va_S.rf
  have hD := vD_self hD
  refine lv_aload_n hx hb dX8_read_0 rfl (lv_at hl 0 rfl) ?_
  refine kget hC.1 hK (kP_app.mp hP).1 0 rfl rfl in_8 3 (by decide) (gw_in m_285 rfl) rfl dX8_read_1 ?_
  refine kget hC.1 hK (kP_app.mp (kP_app.mp (kP_app.mp (kP_app.mp (kP_app.mp (kP_app.mp (kP_app.mp (kP_app.mp (kP_app.mp hP).2).2).2).2).2).2).2).2).1 0 rfl rfl in_6 0 (by decide) (gw_in m_242 rfl) rfl dX8_read_4 ?_
  refine lv_astore_n (lv' := [(1, .ref (c 0)), (0, .ref (x 0))]) hx hb dX8_read_7 rfl hl (by decide) rfl (fun ls hl => ?_)
  refine lv_aload_n hx hb dX8_read_8 rfl (lv_at hl 1 rfl) ?_
  refine kget hC.1 hK (kP_app.mp hP).1 0 rfl rfl in_8 2 (by decide) (gw_in m_284 rfl) rfl dX8_read_9 ?_
  refine lv_aload_n hx hb dX8_read_12 rfl (lv_at hl 0 rfl) ?_
  have hP : kP g (xT g e tN tx T ++ (yW g c rg ++ (cO g x (a 0) im (e 0) (t 0) gu ab be tb tn tf ++ (gW g a (ay 0) (ap 0) (b1 0) (b2 0) (b3 0) ++ (yW g ay r ++ (pW g ap N f ++ (rW g b1 N1 l1 f1 ++ (rW g b2 N2 l2 f2 ++ (rW g b3 N3 l3 f3 ++ (tW g t (c 0) sg bs bc p1 p2 p3 p4 p5 ++ [])))))))))) _ := kP_perm (((((((((((((((pmA _ (pmA _ (pmA _ (pmA _ (pmA _ (pmA _ (pm_swap _ _ _))))))).trans (pmA _ (pmA _ (pmA _ (pmA _ (pmA _ (pm_swap _ _ _))))))).trans (pmA _ (pmA _ (pmA _ (pmA _ (pm_swap _ _ _)))))).trans (pmA _ (pmA _ (pmA _ (pm_swap _ _ _))))).trans (pmA _ (pmA _ (pm_swap _ _ _)))).trans (pmA _ (pm_swap _ _ _))).trans (pm_swap _ _ _)).trans (pmA _ (pmA _ (pmA _ (pmA _ (pmA _ (pmA _ (pmA _ (pmA _ (pm_swap _ _ _)))))))))).trans (pmA _ (pmA _ (pmA _ (pmA _ (pmA _ (pmA _ (pmA _ (pm_swap _ _ _))))))))).trans (pmA _ (pmA _ (pmA _ (pmA _ (pmA _ (pmA _ (pm_swap _ _ _)))))))).trans (pmA _ (pmA _ (pmA _ (pmA _ (pmA _ (pm_swap _ _ _))))))).trans (pmA _ (pmA _ (pmA _ (pmA _ (pm_swap _ _ _)))))).trans (pmA _ (pmA _ (pmA _ (pm_swap _ _ _))))).trans (pmA _ (pmA _ (pm_swap _ _ _)))).trans (pmA _ (pm_swap _ _ _))) hP
  have hD : va_D _ (xT g e tN tx T ++ (yW g c rg ++ (cO g x (a 0) im (e 0) (t 0) gu ab be tb tn tf ++ (gW g a (ay 0) (ap 0) (b1 0) (b2 0) (b3 0) ++ (yW g ay r ++ (pW g ap N f ++ (rW g b1 N1 l1 f1 ++ (rW g b2 N2 l2 f2 ++ (rW g b3 N3 l3 f3 ++ (tW g t (c 0) sg bs bc p1 p2 p3 p4 p5 ++ [])))))))))) := vD_perm (((((((((((((((pmA _ (pmA _ (pmA _ (pmA _ (pmA _ (pmA _ (pm_swap _ _ _))))))).trans (pmA _ (pmA _ (pmA _ (pmA _ (pmA _ (pm_swap _ _ _))))))).trans (pmA _ (pmA _ (pmA _ (pmA _ (pm_swap _ _ _)))))).trans (pmA _ (pmA _ (pmA _ (pm_swap _ _ _))))).trans (pmA _ (pmA _ (pm_swap _ _ _)))).trans (pmA _ (pm_swap _ _ _))).trans (pm_swap _ _ _)).trans (pmA _ (pmA _ (pmA _ (pmA _ (pmA _ (pmA _ (pmA _ (pmA _ (pm_swap _ _ _)))))))))).trans (pmA _ (pmA _ (pmA _ (pmA _ (pmA _ (pmA _ (pmA _ (pm_swap _ _ _))))))))).trans (pmA _ (pmA _ (pmA _ (pmA _ (pmA _ (pmA _ (pm_swap _ _ _)))))))).trans (pmA _ (pmA _ (pmA _ (pmA _ (pmA _ (pm_swap _ _ _))))))).trans (pmA _ (pmA _ (pmA _ (pmA _ (pm_swap _ _ _)))))).trans (pmA _ (pmA _ (pmA _ (pm_swap _ _ _))))).trans (pmA _ (pmA _ (pm_swap _ _ _)))).trans (pmA _ (pm_swap _ _ _))) hD
  refine rw_i (run_V (As := [.ref (c 0)]) (rest := []) hC.1 ckX5_readInto (kX5_readInto l g q9 e tN tx T c rg hN hg) (gw_in m_384 rfl) (fb_rwS _ _ _ _) (va_recv hK.1 (kP_app.mp hP).1 (q0 := 0) rfl rfl) (fun U hU hW => ⟨⟨by rw [hU]; exact (kP_app.mpr ⟨(kP_app.mp hP).1, (kP_app.mpr ⟨(kP_app.mp (kP_app.mp hP).2).1, kP_nil⟩)⟩), kK_warm hW hK, vD_sub (sbA _ (sbA _ (sb0 _))) hD⟩, kS_go (dm_sub (sbA _ (sbA _ (sb0 _))) hD) hZ hS hU hW⟩) ⟨rfl, rfl, Nat.le_of_ble_eq_true rfl, Nat.le_of_ble_eq_true rfl⟩ rfl hl.1 rfl (Nat.le_of_ble_eq_true rfl) dX8_read_13 ⟨Nat.le_of_ble_eq_true rfl, Nat.le_of_ble_eq_true rfl⟩) (adr_app xT_adr (adr_app yW_adr rfl)) (asc2 _ _ _) (ww' := xT g e tN tx (rdC tx tN 151 0 (0, T.2.1, T.2.2.1, 0, T.2.2.2.2) (upd (upd (upd rg 1 0) 2 0) 0 0)).2.1 ++ (yW g c (rdC tx tN 151 0 (0, T.2.1, T.2.2.1, 0, T.2.2.2.2) (upd (upd (upd rg 1 0) 2 0) 0 0)).2.2 ++ (cO g x (a 0) im (e 0) (t 0) gu ab be tb tn tf ++ (gW g a (ay 0) (ap 0) (b1 0) (b2 0) (b3 0) ++ (yW g ay r ++ (pW g ap N f ++ (rW g b1 N1 l1 f1 ++ (rW g b2 N2 l2 f2 ++ (rW g b3 N3 l3 f3 ++ (tW g t (c 0) sg bs bc p1 p2 p3 p4 p5 ++ [])))))))))) (asc2 _ _ _) hP hD hS (fun H locs hP hD hS => ?_)
  refine lv_istore_n (lv' := [(2, .int ((rdC tx tN 151 0 (0, T.2.1, T.2.2.1, 0, T.2.2.2.2) (upd (upd (upd rg 1 0) 2 0) 0 0)).1)), (1, .ref (c 0)), (0, .ref (x 0))]) hx hb dX8_read_16 rfl hl (by decide) rfl (fun ls hl => ?_)
  refine lv_iload_n hx hb dX8_read_17 rfl (lv_at hl 0 rfl) ?_
  refine lv_iconst (v := -1) hx hb dX8_read_18 rfl ?_
  refine lv_icmp_ne (tgt := 33) hx hb dX8_read_19 (by decide) (fun c1 => ?_) (fun c1 => ?_)
  · skip
    refine lv_aload_n hx hb dX8_read_33 rfl (lv_at hl 2 rfl) ?_
    refine kget hC.1 hK (kP_app.mp (kP_app.mp (kP_app.mp hP).2).2).1 0 rfl rfl in_8 0 (by decide) (gw_in m_282 rfl) rfl dX8_read_34 ?_
    refine lv_iconst (v := 0) hx hb dX8_read_37 rfl ?_
    have hP : kP g (gW g a (ay 0) (ap 0) (b1 0) (b2 0) (b3 0) ++ (yW g ay r ++ (pW g ap N f ++ (rW g b1 N1 l1 f1 ++ (rW g b2 N2 l2 f2 ++ (rW g b3 N3 l3 f3 ++ (xT g e tN tx (rdC tx tN 151 0 (0, T.2.1, T.2.2.1, 0, T.2.2.2.2) (upd (upd (upd rg 1 0) 2 0) 0 0)).2.1 ++ (yW g c (rdC tx tN 151 0 (0, T.2.1, T.2.2.1, 0, T.2.2.2.2) (upd (upd (upd rg 1 0) 2 0) 0 0)).2.2 ++ (cO g x (a 0) im (e 0) (t 0) gu ab be tb tn tf ++ (tW g t (c 0) sg bs bc p1 p2 p3 p4 p5 ++ [])))))))))) _ := kP_perm ((((((((((((((((((pmA _ (pmA _ (pm_swap _ _ _))).trans (pmA _ (pm_swap _ _ _))).trans (pm_swap _ _ _)).trans (pmA _ (pmA _ (pmA _ (pm_swap _ _ _))))).trans (pmA _ (pmA _ (pm_swap _ _ _)))).trans (pmA _ (pm_swap _ _ _))).trans (pmA _ (pmA _ (pmA _ (pmA _ (pm_swap _ _ _)))))).trans (pmA _ (pmA _ (pmA _ (pm_swap _ _ _))))).trans (pmA _ (pmA _ (pm_swap _ _ _)))).trans (pmA _ (pmA _ (pmA _ (pmA _ (pmA _ (pm_swap _ _ _))))))).trans (pmA _ (pmA _ (pmA _ (pmA _ (pm_swap _ _ _)))))).trans (pmA _ (pmA _ (pmA _ (pm_swap _ _ _))))).trans (pmA _ (pmA _ (pmA _ (pmA _ (pmA _ (pmA _ (pm_swap _ _ _)))))))).trans (pmA _ (pmA _ (pmA _ (pmA _ (pmA _ (pm_swap _ _ _))))))).trans (pmA _ (pmA _ (pmA _ (pmA _ (pm_swap _ _ _)))))).trans (pmA _ (pmA _ (pmA _ (pmA _ (pmA _ (pmA _ (pmA _ (pm_swap _ _ _))))))))).trans (pmA _ (pmA _ (pmA _ (pmA _ (pmA _ (pmA _ (pm_swap _ _ _)))))))).trans (pmA _ (pmA _ (pmA _ (pmA _ (pmA _ (pm_swap _ _ _))))))) hP
    have hD : va_D _ (gW g a (ay 0) (ap 0) (b1 0) (b2 0) (b3 0) ++ (yW g ay r ++ (pW g ap N f ++ (rW g b1 N1 l1 f1 ++ (rW g b2 N2 l2 f2 ++ (rW g b3 N3 l3 f3 ++ (xT g e tN tx (rdC tx tN 151 0 (0, T.2.1, T.2.2.1, 0, T.2.2.2.2) (upd (upd (upd rg 1 0) 2 0) 0 0)).2.1 ++ (yW g c (rdC tx tN 151 0 (0, T.2.1, T.2.2.1, 0, T.2.2.2.2) (upd (upd (upd rg 1 0) 2 0) 0 0)).2.2 ++ (cO g x (a 0) im (e 0) (t 0) gu ab be tb tn tf ++ (tW g t (c 0) sg bs bc p1 p2 p3 p4 p5 ++ [])))))))))) := vD_perm ((((((((((((((((((pmA _ (pmA _ (pm_swap _ _ _))).trans (pmA _ (pm_swap _ _ _))).trans (pm_swap _ _ _)).trans (pmA _ (pmA _ (pmA _ (pm_swap _ _ _))))).trans (pmA _ (pmA _ (pm_swap _ _ _)))).trans (pmA _ (pm_swap _ _ _))).trans (pmA _ (pmA _ (pmA _ (pmA _ (pm_swap _ _ _)))))).trans (pmA _ (pmA _ (pmA _ (pm_swap _ _ _))))).trans (pmA _ (pmA _ (pm_swap _ _ _)))).trans (pmA _ (pmA _ (pmA _ (pmA _ (pmA _ (pm_swap _ _ _))))))).trans (pmA _ (pmA _ (pmA _ (pmA _ (pm_swap _ _ _)))))).trans (pmA _ (pmA _ (pmA _ (pm_swap _ _ _))))).trans (pmA _ (pmA _ (pmA _ (pmA _ (pmA _ (pmA _ (pm_swap _ _ _)))))))).trans (pmA _ (pmA _ (pmA _ (pmA _ (pmA _ (pm_swap _ _ _))))))).trans (pmA _ (pmA _ (pmA _ (pmA _ (pm_swap _ _ _)))))).trans (pmA _ (pmA _ (pmA _ (pmA _ (pmA _ (pmA _ (pmA _ (pm_swap _ _ _))))))))).trans (pmA _ (pmA _ (pmA _ (pmA _ (pmA _ (pmA _ (pm_swap _ _ _)))))))).trans (pmA _ (pmA _ (pmA _ (pmA _ (pmA _ (pm_swap _ _ _))))))) hD
    refine rw_v (run_V (As := [.int (0)]) (rest := []) hC.1 ckX1_restart (kX1_restart l g a ay ap b1 b2 b3 r N f N1 N2 N3 l1 l2 l3 f1 f2 f3 0) (gw_in m_324 rfl) (fb_rw _ _ _) (va_recv hK.1 (kP_app.mp hP).1 (q0 := 0) rfl rfl) (fun U hU hW => ⟨by rw [hU]; exact (kP_app.mpr ⟨(kP_app.mp hP).1, (kP_app.mpr ⟨(kP_app.mp (kP_app.mp hP).2).1, (kP_app.mpr ⟨(kP_app.mp (kP_app.mp (kP_app.mp hP).2).2).1, (kP_app.mpr ⟨(kP_app.mp (kP_app.mp (kP_app.mp (kP_app.mp hP).2).2).2).1, (kP_app.mpr ⟨(kP_app.mp (kP_app.mp (kP_app.mp (kP_app.mp (kP_app.mp hP).2).2).2).2).1, (kP_app.mpr ⟨(kP_app.mp (kP_app.mp (kP_app.mp (kP_app.mp (kP_app.mp (kP_app.mp hP).2).2).2).2).2).1, kP_nil⟩)⟩)⟩)⟩)⟩)⟩), kK_warm hW hK, vD_sub (sbA _ (sbA _ (sbA _ (sbA _ (sbA _ (sbA _ (sb0 _))))))) hD⟩) ⟨rfl, rfl, Nat.le_of_ble_eq_true rfl, Nat.le_of_ble_eq_true rfl⟩ rfl hl.1 rfl (Nat.le_of_ble_eq_true rfl) dX8_read_38 ⟨Nat.le_of_ble_eq_true rfl, Nat.le_of_ble_eq_true rfl⟩) (adr_app rfl (adr_app yW_adr (adr_app pW_adr (adr_app rW_adr (adr_app rW_adr (adr_app rW_adr rfl)))))) (asc6 _ _ _ _ _ _ _) (ww' := gW g a (ay 0) (ap 0) (b1 0) (b2 0) (b3 0) ++ (yW g ay (upd (upd (upd r 1 0) 2 0) 0 0) ++ (pW g ap 0 f ++ (rW g b1 0 l1 f1 ++ (rW g b2 0 l2 f2 ++ (rW g b3 0 l3 f3 ++ (xT g e tN tx (rdC tx tN 151 0 (0, T.2.1, T.2.2.1, 0, T.2.2.2.2) (upd (upd (upd rg 1 0) 2 0) 0 0)).2.1 ++ (yW g c (rdC tx tN 151 0 (0, T.2.1, T.2.2.1, 0, T.2.2.2.2) (upd (upd (upd rg 1 0) 2 0) 0 0)).2.2 ++ (cO g x (a 0) im (e 0) (t 0) gu ab be tb tn tf ++ (tW g t (c 0) sg bs bc p1 p2 p3 p4 p5 ++ [])))))))))) (asc6 _ _ _ _ _ _ _) hP hD hS (fun H locs hP hD hS => ?_)
    refine lv_aload_n hx hb dX8_read_41 rfl (lv_at hl 2 rfl) ?_
    refine kget hC.1 hK (kP_app.mp (kP_app.mp (kP_app.mp (kP_app.mp (kP_app.mp (kP_app.mp (kP_app.mp (kP_app.mp (kP_app.mp hP).2).2).2).2).2).2).2).2).1 0 rfl rfl in_8 0 (by decide) (gw_in m_282 rfl) rfl dX8_read_42 ?_
    refine kget hC.1 hK (kP_app.mp hP).1 0 rfl rfl in_1 0 (by decide) (gw_in m_180 rfl) rfl dX8_read_45 ?_
    refine lv_aload_n hx hb dX8_read_48 rfl (lv_at hl 1 rfl) ?_
    have hP : kP g (yW g ay (upd (upd (upd r 1 0) 2 0) 0 0) ++ (yW g c (rdC tx tN 151 0 (0, T.2.1, T.2.2.1, 0, T.2.2.2.2) (upd (upd (upd rg 1 0) 2 0) 0 0)).2.2 ++ (gW g a (ay 0) (ap 0) (b1 0) (b2 0) (b3 0) ++ (pW g ap 0 f ++ (rW g b1 0 l1 f1 ++ (rW g b2 0 l2 f2 ++ (rW g b3 0 l3 f3 ++ (xT g e tN tx (rdC tx tN 151 0 (0, T.2.1, T.2.2.1, 0, T.2.2.2.2) (upd (upd (upd rg 1 0) 2 0) 0 0)).2.1 ++ (cO g x (a 0) im (e 0) (t 0) gu ab be tb tn tf ++ (tW g t (c 0) sg bs bc p1 p2 p3 p4 p5 ++ [])))))))))) _ := kP_perm (((((((pm_swap _ _ _).trans (pmA _ (pmA _ (pmA _ (pmA _ (pmA _ (pmA _ (pm_swap _ _ _)))))))).trans (pmA _ (pmA _ (pmA _ (pmA _ (pmA _ (pm_swap _ _ _))))))).trans (pmA _ (pmA _ (pmA _ (pmA _ (pm_swap _ _ _)))))).trans (pmA _ (pmA _ (pmA _ (pm_swap _ _ _))))).trans (pmA _ (pmA _ (pm_swap _ _ _)))).trans (pmA _ (pm_swap _ _ _))) hP
    have hD : va_D _ (yW g ay (upd (upd (upd r 1 0) 2 0) 0 0) ++ (yW g c (rdC tx tN 151 0 (0, T.2.1, T.2.2.1, 0, T.2.2.2.2) (upd (upd (upd rg 1 0) 2 0) 0 0)).2.2 ++ (gW g a (ay 0) (ap 0) (b1 0) (b2 0) (b3 0) ++ (pW g ap 0 f ++ (rW g b1 0 l1 f1 ++ (rW g b2 0 l2 f2 ++ (rW g b3 0 l3 f3 ++ (xT g e tN tx (rdC tx tN 151 0 (0, T.2.1, T.2.2.1, 0, T.2.2.2.2) (upd (upd (upd rg 1 0) 2 0) 0 0)).2.1 ++ (cO g x (a 0) im (e 0) (t 0) gu ab be tb tn tf ++ (tW g t (c 0) sg bs bc p1 p2 p3 p4 p5 ++ [])))))))))) := vD_perm (((((((pm_swap _ _ _).trans (pmA _ (pmA _ (pmA _ (pmA _ (pmA _ (pmA _ (pm_swap _ _ _)))))))).trans (pmA _ (pmA _ (pmA _ (pmA _ (pmA _ (pm_swap _ _ _))))))).trans (pmA _ (pmA _ (pmA _ (pmA _ (pm_swap _ _ _)))))).trans (pmA _ (pmA _ (pmA _ (pm_swap _ _ _))))).trans (pmA _ (pmA _ (pm_swap _ _ _)))).trans (pmA _ (pm_swap _ _ _))) hD
    refine rw_v (run_V (As := [.ref (c 0)]) (rest := []) hC.1 ckX7_copyOf (kX7_copyOf l g ay c (upd (upd (upd r 1 0) 2 0) 0 0) (rdC tx tN 151 0 (0, T.2.1, T.2.2.1, 0, T.2.2.2.2) (upd (upd (upd rg 1 0) 2 0) 0 0)).2.2) (gw_in m_553 rfl) (fb_rw _ _ _) (va_recv hK.1 (kP_app.mp hP).1 (q0 := 0) rfl rfl) (fun U hU hW => ⟨by rw [hU]; exact (kP_app.mpr ⟨(kP_app.mp hP).1, (kP_app.mpr ⟨(kP_app.mp (kP_app.mp hP).2).1, kP_nil⟩)⟩), kK_warm hW hK, vD_sub (sbA _ (sbA _ (sb0 _))) hD⟩) ⟨rfl, rfl, Nat.le_of_ble_eq_true rfl, Nat.le_of_ble_eq_true rfl⟩ rfl hl.1 rfl (Nat.le_of_ble_eq_true rfl) dX8_read_49 ⟨Nat.le_of_ble_eq_true rfl, Nat.le_of_ble_eq_true rfl⟩) (adr_app yW_adr (adr_app rfl rfl)) (asc2 _ _ _) (ww' := yW g ay (rdC tx tN 151 0 (0, T.2.1, T.2.2.1, 0, T.2.2.2.2) (upd (upd (upd rg 1 0) 2 0) 0 0)).2.2 ++ (yW g c (rdC tx tN 151 0 (0, T.2.1, T.2.2.1, 0, T.2.2.2.2) (upd (upd (upd rg 1 0) 2 0) 0 0)).2.2 ++ (gW g a (ay 0) (ap 0) (b1 0) (b2 0) (b3 0) ++ (pW g ap 0 f ++ (rW g b1 0 l1 f1 ++ (rW g b2 0 l2 f2 ++ (rW g b3 0 l3 f3 ++ (xT g e tN tx (rdC tx tN 151 0 (0, T.2.1, T.2.2.1, 0, T.2.2.2.2) (upd (upd (upd rg 1 0) 2 0) 0 0)).2.1 ++ (cO g x (a 0) im (e 0) (t 0) gu ab be tb tn tf ++ (tW g t (c 0) sg bs bc p1 p2 p3 p4 p5 ++ [])))))))))) (asc2 _ _ _) hP hD hS (fun H locs hP hD hS => ?_)
    refine lv_iload_n hx hb dX8_read_52 rfl (lv_at hl 0 rfl) ?_
    have hP : kP g (cO g x (a 0) im (e 0) (t 0) gu ab be tb tn tf ++ (gW g a (ay 0) (ap 0) (b1 0) (b2 0) (b3 0) ++ (yW g ay (rdC tx tN 151 0 (0, T.2.1, T.2.2.1, 0, T.2.2.2.2) (upd (upd (upd rg 1 0) 2 0) 0 0)).2.2 ++ (pW g ap 0 f ++ (rW g b1 0 l1 f1 ++ (rW g b2 0 l2 f2 ++ (rW g b3 0 l3 f3 ++ (xT g e tN tx (rdC tx tN 151 0 (0, T.2.1, T.2.2.1, 0, T.2.2.2.2) (upd (upd (upd rg 1 0) 2 0) 0 0)).2.1 ++ (tW g t (c 0) sg bs bc p1 p2 p3 p4 p5 ++ (yW g c (rdC tx tN 151 0 (0, T.2.1, T.2.2.1, 0, T.2.2.2.2) (upd (upd (upd rg 1 0) 2 0) 0 0)).2.2 ++ [])))))))))) _ := kP_perm ((((((((((((((((pmA _ (pmA _ (pmA _ (pmA _ (pmA _ (pmA _ (pmA _ (pm_swap _ _ _)))))))).trans (pmA _ (pmA _ (pmA _ (pmA _ (pmA _ (pmA _ (pm_swap _ _ _)))))))).trans (pmA _ (pmA _ (pmA _ (pmA _ (pmA _ (pm_swap _ _ _))))))).trans (pmA _ (pmA _ (pmA _ (pmA _ (pm_swap _ _ _)))))).trans (pmA _ (pmA _ (pmA _ (pm_swap _ _ _))))).trans (pmA _ (pmA _ (pm_swap _ _ _)))).trans (pmA _ (pm_swap _ _ _))).trans (pm_swap _ _ _)).trans (pmA _ (pmA _ (pm_swap _ _ _)))).trans (pmA _ (pm_swap _ _ _))).trans (pmA _ (pmA _ (pmA _ (pm_swap _ _ _))))).trans (pmA _ (pmA _ (pmA _ (pmA _ (pm_swap _ _ _)))))).trans (pmA _ (pmA _ (pmA _ (pmA _ (pmA _ (pm_swap _ _ _))))))).trans (pmA _ (pmA _ (pmA _ (pmA _ (pmA _ (pmA _ (pm_swap _ _ _)))))))).trans (pmA _ (pmA _ (pmA _ (pmA _ (pmA _ (pmA _ (pmA _ (pm_swap _ _ _))))))))).trans (pmA _ (pmA _ (pmA _ (pmA _ (pmA _ (pmA _ (pmA _ (pmA _ (pm_swap _ _ _)))))))))) hP
    have hD : va_D _ (cO g x (a 0) im (e 0) (t 0) gu ab be tb tn tf ++ (gW g a (ay 0) (ap 0) (b1 0) (b2 0) (b3 0) ++ (yW g ay (rdC tx tN 151 0 (0, T.2.1, T.2.2.1, 0, T.2.2.2.2) (upd (upd (upd rg 1 0) 2 0) 0 0)).2.2 ++ (pW g ap 0 f ++ (rW g b1 0 l1 f1 ++ (rW g b2 0 l2 f2 ++ (rW g b3 0 l3 f3 ++ (xT g e tN tx (rdC tx tN 151 0 (0, T.2.1, T.2.2.1, 0, T.2.2.2.2) (upd (upd (upd rg 1 0) 2 0) 0 0)).2.1 ++ (tW g t (c 0) sg bs bc p1 p2 p3 p4 p5 ++ (yW g c (rdC tx tN 151 0 (0, T.2.1, T.2.2.1, 0, T.2.2.2.2) (upd (upd (upd rg 1 0) 2 0) 0 0)).2.2 ++ [])))))))))) := vD_perm ((((((((((((((((pmA _ (pmA _ (pmA _ (pmA _ (pmA _ (pmA _ (pmA _ (pm_swap _ _ _)))))))).trans (pmA _ (pmA _ (pmA _ (pmA _ (pmA _ (pmA _ (pm_swap _ _ _)))))))).trans (pmA _ (pmA _ (pmA _ (pmA _ (pmA _ (pm_swap _ _ _))))))).trans (pmA _ (pmA _ (pmA _ (pmA _ (pm_swap _ _ _)))))).trans (pmA _ (pmA _ (pmA _ (pm_swap _ _ _))))).trans (pmA _ (pmA _ (pm_swap _ _ _)))).trans (pmA _ (pm_swap _ _ _))).trans (pm_swap _ _ _)).trans (pmA _ (pmA _ (pm_swap _ _ _)))).trans (pmA _ (pm_swap _ _ _))).trans (pmA _ (pmA _ (pmA _ (pm_swap _ _ _))))).trans (pmA _ (pmA _ (pmA _ (pmA _ (pm_swap _ _ _)))))).trans (pmA _ (pmA _ (pmA _ (pmA _ (pmA _ (pm_swap _ _ _))))))).trans (pmA _ (pmA _ (pmA _ (pmA _ (pmA _ (pmA _ (pm_swap _ _ _)))))))).trans (pmA _ (pmA _ (pmA _ (pmA _ (pmA _ (pmA _ (pmA _ (pm_swap _ _ _))))))))).trans (pmA _ (pmA _ (pmA _ (pmA _ (pmA _ (pmA _ (pmA _ (pmA _ (pm_swap _ _ _)))))))))) hD
    exact ret_rwi hx hb hr hlk (by rw [if_neg c1]) (kP_eq (by simp only [if_neg c1]) hP) hS dX8_read_53
  · skip
    refine lv_bipush (v := -10) hx hb dX8_read_22 rfl ?_
    refine lv_aload_n hx hb dX8_read_24 rfl (lv_at hl 2 rfl) ?_
    refine kget hC.1 hK (kP_app.mp (kP_app.mp (kP_app.mp hP).2).2).1 0 rfl rfl in_8 2 (by decide) (gw_in m_284 rfl) rfl dX8_read_25 ?_
    refine kget hC.1 hK (kP_app.mp hP).1 0 rfl rfl in_5 1 (by decide) (gw_in m_211 rfl) rfl dX8_read_28 ?_
    refine lv_isub hx hb dX8_read_31 ?_
    have hP : kP g (cO g x (a 0) im (e 0) (t 0) gu ab be tb tn tf ++ (gW g a (ay 0) (ap 0) (b1 0) (b2 0) (b3 0) ++ (yW g ay r ++ (pW g ap N f ++ (rW g b1 N1 l1 f1 ++ (rW g b2 N2 l2 f2 ++ (rW g b3 N3 l3 f3 ++ (xT g e tN tx (rdC tx tN 151 0 (0, T.2.1, T.2.2.1, 0, T.2.2.2.2) (upd (upd (upd rg 1 0) 2 0) 0 0)).2.1 ++ (tW g t (c 0) sg bs bc p1 p2 p3 p4 p5 ++ (yW g c (rdC tx tN 151 0 (0, T.2.1, T.2.2.1, 0, T.2.2.2.2) (upd (upd (upd rg 1 0) 2 0) 0 0)).2.2 ++ [])))))))))) _ := kP_perm (((((((((((((((pmA _ (pm_swap _ _ _)).trans (pm_swap _ _ _)).trans (pmA _ (pmA _ (pm_swap _ _ _)))).trans (pmA _ (pm_swap _ _ _))).trans (pmA _ (pmA _ (pmA _ (pm_swap _ _ _))))).trans (pmA _ (pmA _ (pm_swap _ _ _)))).trans (pmA _ (pmA _ (pmA _ (pmA _ (pm_swap _ _ _)))))).trans (pmA _ (pmA _ (pmA _ (pm_swap _ _ _))))).trans (pmA _ (pmA _ (pmA _ (pmA _ (pmA _ (pm_swap _ _ _))))))).trans (pmA _ (pmA _ (pmA _ (pmA _ (pm_swap _ _ _)))))).trans (pmA _ (pmA _ (pmA _ (pmA _ (pmA _ (pmA _ (pm_swap _ _ _)))))))).trans (pmA _ (pmA _ (pmA _ (pmA _ (pmA _ (pm_swap _ _ _))))))).trans (pmA _ (pmA _ (pmA _ (pmA _ (pmA _ (pmA _ (pmA _ (pm_swap _ _ _))))))))).trans (pmA _ (pmA _ (pmA _ (pmA _ (pmA _ (pmA _ (pm_swap _ _ _)))))))).trans (pmA _ (pmA _ (pmA _ (pmA _ (pmA _ (pmA _ (pmA _ (pmA _ (pm_swap _ _ _)))))))))) hP
    have hD : va_D _ (cO g x (a 0) im (e 0) (t 0) gu ab be tb tn tf ++ (gW g a (ay 0) (ap 0) (b1 0) (b2 0) (b3 0) ++ (yW g ay r ++ (pW g ap N f ++ (rW g b1 N1 l1 f1 ++ (rW g b2 N2 l2 f2 ++ (rW g b3 N3 l3 f3 ++ (xT g e tN tx (rdC tx tN 151 0 (0, T.2.1, T.2.2.1, 0, T.2.2.2.2) (upd (upd (upd rg 1 0) 2 0) 0 0)).2.1 ++ (tW g t (c 0) sg bs bc p1 p2 p3 p4 p5 ++ (yW g c (rdC tx tN 151 0 (0, T.2.1, T.2.2.1, 0, T.2.2.2.2) (upd (upd (upd rg 1 0) 2 0) 0 0)).2.2 ++ [])))))))))) := vD_perm (((((((((((((((pmA _ (pm_swap _ _ _)).trans (pm_swap _ _ _)).trans (pmA _ (pmA _ (pm_swap _ _ _)))).trans (pmA _ (pm_swap _ _ _))).trans (pmA _ (pmA _ (pmA _ (pm_swap _ _ _))))).trans (pmA _ (pmA _ (pm_swap _ _ _)))).trans (pmA _ (pmA _ (pmA _ (pmA _ (pm_swap _ _ _)))))).trans (pmA _ (pmA _ (pmA _ (pm_swap _ _ _))))).trans (pmA _ (pmA _ (pmA _ (pmA _ (pmA _ (pm_swap _ _ _))))))).trans (pmA _ (pmA _ (pmA _ (pmA _ (pm_swap _ _ _)))))).trans (pmA _ (pmA _ (pmA _ (pmA _ (pmA _ (pmA _ (pm_swap _ _ _)))))))).trans (pmA _ (pmA _ (pmA _ (pmA _ (pmA _ (pm_swap _ _ _))))))).trans (pmA _ (pmA _ (pmA _ (pmA _ (pmA _ (pmA _ (pmA _ (pm_swap _ _ _))))))))).trans (pmA _ (pmA _ (pmA _ (pmA _ (pmA _ (pmA _ (pm_swap _ _ _)))))))).trans (pmA _ (pmA _ (pmA _ (pmA _ (pmA _ (pmA _ (pmA _ (pmA _ (pm_swap _ _ _)))))))))) hD
    exact ret_rwi hx hb hr hlk (by rw [if_pos c1]) (kP_eq (by simp only [if_pos c1]) hP) hS dX8_read_32
