theorem ckX9_readsYard : ckV yX9_readsYard cX9_readsYard 2 (some .boolean) 0 := ⟨(gw_in m_1106 rfl), (gw_in m_71 rfl), ⟨(gw_in m_1105 rfl), (gw_in m_36 rfl)⟩, by decide +kernel, by decide +kernel, by decide +kernel⟩
theorem ckX9_readsWait : ckV yX9_readsWait cX9_readsWait 2 (some .boolean) 0 := ⟨(gw_in m_1167 rfl), (gw_in m_71 rfl), ⟨(gw_in m_1166 rfl), (gw_in m_43 rfl)⟩, by decide +kernel, by decide +kernel, by decide +kernel⟩
theorem ckX9_readsPlayer : ckV yX9_readsPlayer cX9_readsPlayer 3 (some .boolean) 0 := ⟨(gw_in m_1123 rfl), (gw_in m_71 rfl), ⟨(gw_in m_1122 rfl), (gw_in m_40 rfl)⟩, by decide +kernel, by decide +kernel, by decide +kernel⟩
theorem ckX9_readsNut : ckV yX9_readsNut cX9_readsNut 5 (some .boolean) 0 := ⟨(gw_in m_1127 rfl), (gw_in m_71 rfl), ⟨(gw_in m_1126 rfl), (gw_in m_41 rfl)⟩, by decide +kernel, by decide +kernel, by decide +kernel⟩
theorem ckX9_readsStrike : ckV yX9_readsStrike cX9_readsStrike 3 (some .boolean) 0 := ⟨(gw_in m_1132 rfl), (gw_in m_71 rfl), ⟨(gw_in m_1131 rfl), (gw_in m_42 rfl)⟩, by decide +kernel, by decide +kernel, by decide +kernel⟩
theorem ckX9_readsItem : ckV yX9_readsItem cX9_readsItem 2 (some .boolean) 1 := ⟨(gw_in m_1093 rfl), (gw_in m_71 rfl), ⟨(gw_in m_1092 rfl), (gw_in m_33 rfl)⟩, by decide +kernel, by decide +kernel, by decide +kernel⟩
theorem ckX9_isMore : ckV yX9_isMore cX9_isMore 1 (some .boolean) 0 := ⟨(gw_in m_1174 rfl), (gw_in m_71 rfl), ⟨(gw_in m_1173 rfl), (gw_in m_44 rfl)⟩, by decide +kernel, by decide +kernel, by decide +kernel⟩
theorem ckX9_read : ckV yX9_read cX9_read 2 (some .int) 0 := ⟨(gw_in m_1089 rfl), (gw_in m_71 rfl), ⟨(gw_in m_1087 rfl), (gw_in m_1088 rfl)⟩, by decide +kernel, by decide +kernel, by decide +kernel⟩
theorem nx_le {tx : Nat → Int32} {N : Nat} {z : M4} (hra : z.1 ≤ N) : (nxZ tx N z).1 ≤ N := by
  have hs := skF_le (p := fun k => wth (tx k) 32 32) hra
  show (nxM tx N z.1).1 ≤ N
  unfold nxM
  by_cases c1 : skF (fun k => wth (tx k) 32 32) N z.1 = N
  · rw [if_pos c1]; exact hs
  · rw [if_neg c1]
    by_cases c2 : wth (tx (skF (fun k => wth (tx k) 32 32) N z.1)) 97 122 = true
    · rw [if_pos c2]; exact skF_le hs
    · rw [if_neg c2]
      by_cases c3 : wth (tx (skF (fun k => wth (tx k) 32 32) N z.1)) 48 57 = true
      · rw [if_pos c3]; exact skF_le hs
      · rw [if_neg c3]; show _ + 1 ≤ N; omega
theorem nx_mono {tx : Nat → Int32} {N : Nat} {z : M4} : z.1 ≤ (nxZ tx N z).1 := by
  have hs := skF_ge (p := fun k => wth (tx k) 32 32) (N := N) (s := z.1)
  show z.1 ≤ (nxM tx N z.1).1
  unfold nxM
  by_cases c1 : skF (fun k => wth (tx k) 32 32) N z.1 = N
  · rw [if_pos c1]; exact hs
  · rw [if_neg c1]
    by_cases c2 : wth (tx (skF (fun k => wth (tx k) 32 32) N z.1)) 97 122 = true
    · rw [if_pos c2]; exact Nat.le_trans hs skF_ge
    · rw [if_neg c2]
      by_cases c3 : wth (tx (skF (fun k => wth (tx k) 32 32) N z.1)) 48 57 = true
      · rw [if_pos c3]; exact Nat.le_trans hs skF_ge
      · rw [if_neg c3]; exact Nat.le_trans hs (Nat.le_succ _)
theorem en_gt {tx : Nat → Int32} {N : Nat} {z : M4} (h : enB tx N z = true) : z.1 < (nxZ tx N z).1 := by
  have h' : (nxM tx N z.1).2.2 = -3 := of_decide_eq_true h
  have hs := skF_ge (p := fun k => wth (tx k) 32 32) (N := N) (s := z.1)
  show z.1 < (nxM tx N z.1).1
  unfold nxM at h' ⊢
  by_cases c1 : skF (fun k => wth (tx k) 32 32) N z.1 = N
  · rw [if_pos c1] at h'; exact absurd (show (-1 : Int32) = -3 from h') (by decide)
  · rw [if_neg c1] at h' ⊢
    by_cases c2 : wth (tx (skF (fun k => wth (tx k) 32 32) N z.1)) 97 122 = true
    · rw [if_pos c2] at h'
      by_cases c6 : 6 < skF (fun k => wth (tx k) 97 122) N (skF (fun k => wth (tx k) 32 32) N z.1) - skF (fun k => wth (tx k) 32 32) N z.1
      · exact absurd (show (0 : Int32) = -3 from (if_pos c6).symm.trans h') (by decide)
      · have h9 : wdM tx (skF (fun k => wth (tx k) 32 32) N z.1) (skF (fun k => wth (tx k) 97 122) N (skF (fun k => wth (tx k) 32 32) N z.1) - skF (fun k => wth (tx k) 32 32) N z.1) = -3 := (if_neg c6).symm.trans h'
        have h8 := nx_wd c6
        rw [h9] at h8
        exact absurd h8 (by decide)
    · rw [if_neg c2] at h' ⊢
      by_cases c3 : wth (tx (skF (fun k => wth (tx k) 32 32) N z.1)) 48 57 = true
      · rw [if_pos c3] at h'; exact absurd (show (-2 : Int32) = -3 from h') (by decide)
      · rw [if_neg c3]; exact Nat.lt_succ_of_le hs
theorem nm_no {tx : Nat → Int32} {N : Nat} {u v : Int32} {z : M4} (hu : 0 ≤ u) (h : nmX tx N u v z = -1) : nmB tx N u v z = false := by
  cases hb : nmB tx N u v z with
  | false => rfl
  | true =>
    have h2 : nmV tx (nxZ tx N z) = -1 := (if_pos hb).symm.trans h
    simp only [nmB, Bool.and_eq_true] at hb
    have h3 := hb.2
    rw [h2, wth_ti, show (-1 : Int32).toInt = -1 from rfl] at h3
    rw [Int32.le_iff_toInt_le, Int32.toInt_zero] at hu
    omega
theorem nm_yes {tx : Nat → Int32} {N : Nat} {u v : Int32} {z : M4} (h : ¬ nmX tx N u v z = -1) : nmB tx N u v z = true := by
  cases hb : nmB tx N u v z with
  | true => rfl
  | false => exact absurd (if_neg (by rw [hb]; decide)) h
theorem nm_nut {tx : Nat → Int32} {N : Nat} {z : M4} {r : Nat → Int32} (hw : Wf r) (h : nmB tx N 0 (r 2 - 1) z = true) : yNut r (nmV tx (nxZ tx N z)) = true := by
  rw [← nut_w hw]
  simp only [nmB, Bool.and_eq_true] at h
  exact h.2
abbrev RdT : Type := Bool × M4 × (Nat → Int32)
def mdY (tx : Nat → Int32) (N : Nat) (z : M4) (ot : Nat → Int32) : RdT := if nmB tx N 0 99 z = true then (if enB tx N (nxZ tx N z) = true then (true, nxZ tx N (nxZ tx N z), upd (fun _ => 0) 0 (nmV tx (nxZ tx N z))) else (false, flZ (nxZ tx N (nxZ tx N z)), ot)) else (false, flZ (nxZ tx N z), ot)
def mdW (tx : Nat → Int32) (N : Nat) (z : M4) (ot : Nat → Int32) : RdT := if nmB tx N 1 99 z = true then (if enB tx N (nxZ tx N z) = true then (true, nxZ tx N (nxZ tx N z), upd ot 0 (if 9999 < ot 0 + nmV tx (nxZ tx N z) then 9999 else ot 0 + nmV tx (nxZ tx N z))) else (false, flZ (nxZ tx N (nxZ tx N z)), ot)) else (false, flZ (nxZ tx N z), ot)
def mdP (tx : Nat → Int32) (N : Nat) (z : M4) (ot : Nat → Int32) : RdT := if ot 1 = 3 then (false, flZ z, ot) else if nmB tx N 0 5 z = true then (if nmB tx N 1 9 (nxZ tx N z) = true then (if enB tx N (nxZ tx N (nxZ tx N z)) = true then (true, nxZ tx N (nxZ tx N (nxZ tx N z)), adP ot (nmV tx (nxZ tx N z)) (nmV tx (nxZ tx N (nxZ tx N z)))) else (false, flZ (nxZ tx N (nxZ tx N (nxZ tx N z))), ot)) else (false, flZ (nxZ tx N (nxZ tx N z)), ot)) else (false, flZ (nxZ tx N z), ot)
def mdN (tx : Nat → Int32) (N : Nat) (z : M4) (ot : Nat → Int32) : RdT := if ot 2 = 6 then (false, flZ z, ot) else if nmB tx N 0 (ot 1 - 1) z = true then (if nmB tx N 0 5 (nxZ tx N z) = true then (if nmB tx N 0 9 (nxZ tx N (nxZ tx N z)) = true then (if nmB tx N 1 9 (nxZ tx N (nxZ tx N (nxZ tx N z))) = true then (if enB tx N (nxZ tx N (nxZ tx N (nxZ tx N (nxZ tx N z)))) = true then (true, nxZ tx N (nxZ tx N (nxZ tx N (nxZ tx N (nxZ tx N z)))), adN ot (nmV tx (nxZ tx N z)) (nmV tx (nxZ tx N (nxZ tx N z))) (nmV tx (nxZ tx N (nxZ tx N (nxZ tx N z)))) (nmV tx (nxZ tx N (nxZ tx N (nxZ tx N (nxZ tx N z)))))) else (false, flZ (nxZ tx N (nxZ tx N (nxZ tx N (nxZ tx N (nxZ tx N z))))), ot)) else (false, flZ (nxZ tx N (nxZ tx N (nxZ tx N (nxZ tx N z)))), ot)) else (false, flZ (nxZ tx N (nxZ tx N (nxZ tx N z))), ot)) else (false, flZ (nxZ tx N (nxZ tx N z)), ot)) else (false, flZ (nxZ tx N z), ot)
def mdS (tx : Nat → Int32) (N : Nat) (z : M4) (ot : Nat → Int32) : RdT := if nmB tx N 0 (ot 2 - 1) z = true then (if mBrk ot (nmV tx (nxZ tx N z)) = true then (false, flZ (nxZ tx N z), ot) else if nmB tx N 0 (ot 2 - 1) (nxZ tx N z) = true then (if yCan ot (nmV tx (nxZ tx N z)) (nmV tx (nxZ tx N (nxZ tx N z))) = true then (if enB tx N (nxZ tx N (nxZ tx N z)) = true then (true, nxZ tx N (nxZ tx N (nxZ tx N z)), stk ot (nmV tx (nxZ tx N z)) (nmV tx (nxZ tx N (nxZ tx N z)))) else (false, flZ (nxZ tx N (nxZ tx N (nxZ tx N z))), ot)) else (false, flZ (nxZ tx N (nxZ tx N z)), ot)) else (false, flZ (nxZ tx N (nxZ tx N z)), ot)) else (false, flZ (nxZ tx N z), ot)
def mdI (tx : Nat → Int32) (N : Nat) (b : Bool) (z : M4) (ot : Nat → Int32) : RdT := if b = true then (if (nxZ tx N z).2.2.1 = 493294 then mdY tx N (nxZ tx N z) ot else (false, flZ (nxZ tx N z), ot)) else if (nxZ tx N z).2.2.1 = 235997865 then mdP tx N (nxZ tx N z) ot else if (nxZ tx N z).2.2.1 = 10793 then mdN tx N (nxZ tx N z) ot else if (nxZ tx N z).2.2.1 = 283619210 then mdS tx N (nxZ tx N z) ot else if (nxZ tx N z).2.2.1 = 453701 then mdW tx N (nxZ tx N z) ot else (false, flZ (nxZ tx N z), ot)
/-- what holds of an item that was read: it went on, and the yard is one -/
abbrev RdG (N : Nat) (z : M4) (ot : Nat → Int32) (d : RdT) : Prop := (d.1 = true → z.1 < d.2.1.1 ∧ d.2.1.1 ≤ N) ∧ (Wf ot → Wf d.2.2)
theorem RdG_no {N : Nat} {z w : M4} {ot : Nat → Int32} : RdG N z ot (false, w, ot) := ⟨fun h => absurd (show false = true from h) (by decide), fun h => h⟩
theorem nm_bd {tx : Nat → Int32} {N : Nat} {u v : Int32} {z : M4} (h : nmB tx N u v z = true) : u.toInt ≤ (nmV tx (nxZ tx N z)).toInt ∧ (nmV tx (nxZ tx N z)).toInt ≤ v.toInt := by
  simp only [nmB, Bool.and_eq_true] at h
  exact wth_ti.mp h.2
theorem bd_0 {hi : Int} (h : 0 ≤ hi) : bd 0 0 hi := ⟨Int.le_refl 0, h⟩
theorem Wf_zero {t : Int32} (h : bd t 0 9999) : Wf (upd (fun _ => 0) 0 t) := by
  refine ⟨?_, ?_, ?_, ?_, ?_, ?_⟩
  · rw [upd_eq]; exact h
  · rw [upd_ne (by decide)]; exact bd_0 (by decide)
  · rw [upd_ne (by decide)]; exact bd_0 (by decide)
  · intro j hj; rw [upd_ne (by omega), upd_ne (by omega)]; exact ⟨bd_0 (by decide), bd_0 (by decide)⟩
  · intro j hj; rw [upd_ne (by omega), upd_ne (by omega), upd_ne (by omega), upd_ne (by omega), upd_ne (by omega), upd_ne (by omega)]; exact ⟨bd_0 (by decide), bd_0 (by decide), bd_0 (by decide), bd_0 (by decide), bd_0 (by decide), bd_0 (by decide)⟩
  · intro j hj; rw [upd_ne (by omega), show (0 : Int32).toInt = 0 from rfl] at hj; omega
theorem Wf_adP {r : Nat → Int32} {k q : Int32} (h : Wf r) (hp : bd (r 1) 0 2) (hk : bd k 0 5) (hq : bd q 0 9) : Wf (adP r k q) := by
  obtain ⟨h0, h1, h2, h3, h4, h5⟩ := h
  have hc := cl_ti (i := r 1) hp.1
  have hp2 := hp.2
  have e1 : (r 1 + 1).toInt = (r 1).toInt + 1 := ti_add (by show _ ≤ _ + 1; omega) (by show _ + 1 < _; omega)
  have f : ∀ n, adP r k q n = if n = 1 then r 1 + 1 else if n = 6 + cl (r 1) then q else if n = 3 + cl (r 1) then k else r n := fun n => rfl
  refine ⟨?_, ?_, ?_, ?_, ?_, ?_⟩
  · rw [f, if_neg (by omega), if_neg (by omega), if_neg (by omega)]; exact h0
  · rw [f, if_pos rfl]; unfold bd; omega
  · rw [f, if_neg (by omega), if_neg (by omega), if_neg (by omega)]; exact h2
  · intro j hj
    have a := h3 j hj
    constructor
    · rw [f, if_neg (by omega), if_neg (by omega)]
      by_cases e : j = cl (r 1)
      · rw [if_pos (by omega)]; exact hk
      · rw [if_neg (by omega)]; exact a.1
    · rw [f, if_neg (by omega)]
      by_cases e : j = cl (r 1)
      · rw [if_pos (by omega)]; exact hq
      · rw [if_neg (by omega), if_neg (by omega)]; exact a.2
  · intro j hj
    have a := h4 j hj
    have g : ∀ n, 9 ≤ n → adP r k q n = r n := fun n hn => by rw [f, if_neg (by omega), if_neg (by omega), if_neg (by omega)]
    rw [g _ (by omega), g _ (by omega), g _ (by omega), g _ (by omega), g _ (by omega), g _ (by omega)]
    exact a
  · intro j hj
    have g : ∀ n, 9 ≤ n → adP r k q n = r n := fun n hn => by rw [f, if_neg (by omega), if_neg (by omega), if_neg (by omega)]
    have g2 : adP r k q 2 = r 2 := by rw [f, if_neg (by omega), if_neg (by omega), if_neg (by omega)]
    rw [g2] at hj
    rw [g _ (by omega), show adP r k q 1 = r 1 + 1 from (f 1).trans (if_pos rfl), e1]
    have := h5 j hj
    omega
theorem Wf_adN {r : Nat → Int32} {q k hd w : Int32} (h : Wf r) (hp : bd (r 2) 0 5) (hq : 0 ≤ q.toInt ∧ q.toInt < (r 1).toInt) (hk : bd k 0 5) (hh : bd hd 0 9) (hw : bd w 0 9) : Wf (adN r q k hd w) := by
  obtain ⟨h0, h1, h2, h3, h4, h5⟩ := h
  have hc := cl_ti (i := r 2) hp.1
  have hp2 := hp.2
  have h12 := h1.2
  have e1 : (r 2 + 1).toInt = (r 2).toInt + 1 := ti_add (by show _ ≤ _ + 1; omega) (by show _ + 1 < _; omega)
  have f : ∀ n, adN r q k hd w n = if n = 2 then r 2 + 1 else if n = 39 + cl (r 2) then 1 else if n = 33 + cl (r 2) then 0 else if n = 27 + cl (r 2) then w else if n = 21 + cl (r 2) then hd else if n = 15 + cl (r 2) then k else if n = 9 + cl (r 2) then q else r n := fun n => rfl
  have g : ∀ n, n < 9 → ¬ n = 2 → adN r q k hd w n = r n := fun n hn hn2 => by rw [f, if_neg hn2, if_neg (by omega), if_neg (by omega), if_neg (by omega), if_neg (by omega), if_neg (by omega), if_neg (by omega)]
  have g9 : ∀ j, j < 6 → adN r q k hd w (9 + j) = if j = cl (r 2) then q else r (9 + j) := fun j hj => by
    rw [f, if_neg (by omega), if_neg (by omega), if_neg (by omega), if_neg (by omega), if_neg (by omega), if_neg (by omega)]
    by_cases e : j = cl (r 2)
    · rw [if_pos (by omega), if_pos e]
    · rw [if_neg (by omega), if_neg e]
  refine ⟨?_, ?_, ?_, ?_, ?_, ?_⟩
  · rw [g 0 (by omega) (by omega)]; exact h0
  · rw [g 1 (by omega) (by omega)]; exact h1
  · rw [f, if_pos rfl]; unfold bd; omega
  · intro j hj
    rw [g _ (by omega) (by omega), g _ (by omega) (by omega)]; exact h3 j hj
  · intro j hj
    obtain ⟨a1, a2, a3, a4, a5, a6⟩ := h4 j hj
    by_cases e : j = cl (r 2)
    · refine ⟨?_, ?_, ?_, ?_, ?_, ?_⟩
      · rw [g9 j hj, if_pos e]; unfold bd; omega
      · rw [f, if_neg (by omega), if_neg (by omega), if_neg (by omega), if_neg (by omega), if_neg (by omega), if_pos (by omega)]; exact hk
      · rw [f, if_neg (by omega), if_neg (by omega), if_neg (by omega), if_neg (by omega), if_pos (by omega)]; exact hh
      · rw [f, if_neg (by omega), if_neg (by omega), if_neg (by omega), if_pos (by omega)]; exact hw
      · rw [f, if_neg (by omega), if_neg (by omega), if_pos (by omega)]; exact ⟨by decide, by decide⟩
      · rw [f, if_neg (by omega), if_pos (by omega)]; exact ⟨by decide, by decide⟩
    · refine ⟨?_, ?_, ?_, ?_, ?_, ?_⟩
      · rw [g9 j hj, if_neg e]; exact a1
      · rw [f, if_neg (by omega), if_neg (by omega), if_neg (by omega), if_neg (by omega), if_neg (by omega), if_neg (by omega), if_neg (by omega)]; exact a2
      · rw [f, if_neg (by omega), if_neg (by omega), if_neg (by omega), if_neg (by omega), if_neg (by omega), if_neg (by omega), if_neg (by omega)]; exact a3
      · rw [f, if_neg (by omega), if_neg (by omega), if_neg (by omega), if_neg (by omega), if_neg (by omega), if_neg (by omega), if_neg (by omega)]; exact a4
      · rw [f, if_neg (by omega), if_neg (by omega), if_neg (by omega), if_neg (by omega), if_neg (by omega), if_neg (by omega), if_neg (by omega)]; exact a5
      · rw [f, if_neg (by omega), if_neg (by omega), if_neg (by omega), if_neg (by omega), if_neg (by omega), if_neg (by omega), if_neg (by omega)]; exact a6
  · intro j hj
    rw [show adN r q k hd w 2 = r 2 + 1 from (f 2).trans (if_pos rfl), e1] at hj
    rw [g 1 (by omega) (by omega), g9 j (by omega)]
    by_cases e : j = cl (r 2)
    · rw [if_pos e]; exact hq.2
    · rw [if_neg e]; exact h5 j (by omega)
theorem Wf_pass {r : Nat → Int32} {n : Int32} (h : Wf r) (hn : bd n 0 99) : Wf (upd r 0 (if 9999 < r 0 + n then 9999 else r 0 + n)) := by
  have h0 := h.num
  have hn1 := hn.1
  have hn2 := hn.2
  have e : (r 0 + n).toInt = (r 0).toInt + n.toInt := ti_add (by omega) (by omega)
  refine Wf_0 h ?_
  by_cases c : 9999 < r 0 + n
  · rw [if_pos c]; exact ⟨by decide, by decide⟩
  · rw [if_neg c]
    rw [Int32.lt_iff_toInt_lt, e, show (9999 : Int32).toInt = 9999 from rfl] at c
    unfold bd
    omega
theorem mdY_G {tx : Nat → Int32} {N : Nat} {z : M4} {ot : Nat → Int32} (hra : z.1 ≤ N) : RdG N z ot (mdY tx N z ot) := by
  unfold mdY
  split
  · rename_i h1
    split
    · rename_i h2
      exact ⟨fun _ => ⟨Nat.lt_of_le_of_lt nx_mono (en_gt h2), nx_le (nx_le hra)⟩, fun _ => Wf_zero (by have h9 := nm_bd h1; rw [show (0 : Int32).toInt = 0 from rfl, show (99 : Int32).toInt = 99 from rfl] at h9; unfold bd; omega)⟩
    · exact RdG_no
  · exact RdG_no
theorem mdW_G {tx : Nat → Int32} {N : Nat} {z : M4} {ot : Nat → Int32} (hra : z.1 ≤ N) : RdG N z ot (mdW tx N z ot) := by
  unfold mdW
  split
  · rename_i h1
    split
    · rename_i h2
      exact ⟨fun _ => ⟨Nat.lt_of_le_of_lt nx_mono (en_gt h2), nx_le (nx_le hra)⟩, fun hw => Wf_pass hw (by have h9 := nm_bd h1; rw [show (1 : Int32).toInt = 1 from rfl, show (99 : Int32).toInt = 99 from rfl] at h9; unfold bd; omega)⟩
    · exact RdG_no
  · exact RdG_no
theorem mdP_G {tx : Nat → Int32} {N : Nat} {z : M4} {ot : Nat → Int32} (hra : z.1 ≤ N) : RdG N z ot (mdP tx N z ot) := by
  unfold mdP
  split
  · exact RdG_no
  · rename_i h0
    split
    · rename_i h1
      split
      · rename_i h2
        split
        · rename_i h3
          exact ⟨fun _ => ⟨Nat.lt_of_le_of_lt (Nat.le_trans nx_mono nx_mono) (en_gt h3), nx_le (nx_le (nx_le hra))⟩, fun hw => Wf_adP hw (pl_bd3 hw h0) (nm_bd h1) (by have h9 := nm_bd h2; rw [show (1 : Int32).toInt = 1 from rfl, show (9 : Int32).toInt = 9 from rfl] at h9; unfold bd; omega)⟩
        · exact RdG_no
      · exact RdG_no
    · exact RdG_no
theorem mdN_G {tx : Nat → Int32} {N : Nat} {z : M4} {ot : Nat → Int32} (hra : z.1 ≤ N) : RdG N z ot (mdN tx N z ot) := by
  unfold mdN
  split
  · exact RdG_no
  · rename_i h0
    split
    · rename_i h1
      split
      · rename_i h2
        split
        · rename_i h3
          split
          · rename_i h4
            split
            · rename_i h5
              refine ⟨fun _ => ⟨Nat.lt_of_le_of_lt (Nat.le_trans (Nat.le_trans (Nat.le_trans nx_mono nx_mono) nx_mono) nx_mono) (en_gt h5), nx_le (nx_le (nx_le (nx_le (nx_le hra))))⟩, fun hw => Wf_adN hw (nu_bd6 hw h0) ?_ (nm_bd h2) (nm_bd h3) (by have h9 := nm_bd h4; rw [show (1 : Int32).toInt = 1 from rfl, show (9 : Int32).toInt = 9 from rfl] at h9; unfold bd; omega)⟩
              have h9 := nm_bd h1
              have hb := hw.2.1
              unfold bd at hb
              have e : (ot 1 - 1).toInt = (ot 1).toInt - 1 := ti_sub (by show _ ≤ _ - 1; omega) (by show _ - 1 < _; omega)
              rw [e, show (0 : Int32).toInt = 0 from rfl] at h9
              omega
            · exact RdG_no
          · exact RdG_no
        · exact RdG_no
      · exact RdG_no
    · exact RdG_no
theorem mdS_G {tx : Nat → Int32} {N : Nat} {z : M4} {ot : Nat → Int32} (hra : z.1 ≤ N) : RdG N z ot (mdS tx N z ot) := by
  unfold mdS
  split
  · split
    · exact RdG_no
    · split
      · split
        · rename_i h2
          split
          · rename_i h3
            exact ⟨fun _ => ⟨Nat.lt_of_le_of_lt (Nat.le_trans nx_mono nx_mono) (en_gt h3), nx_le (nx_le (nx_le hra))⟩, fun hw => Wf_stk hw (yCan_nut h2).1 (yCan_nut h2).2⟩
          · exact RdG_no
        · exact RdG_no
      · exact RdG_no
  · exact RdG_no
theorem RdG_up {tx : Nat → Int32} {N : Nat} {z : M4} {ot : Nat → Int32} {d : RdT} (h : RdG N (nxZ tx N z) ot d) : RdG N z ot d := ⟨fun k => ⟨Nat.lt_of_le_of_lt nx_mono (h.1 k).1, (h.1 k).2⟩, h.2⟩
theorem mdI_G {tx : Nat → Int32} {N : Nat} {b : Bool} {z : M4} {ot : Nat → Int32} (hra : z.1 ≤ N) : RdG N z ot (mdI tx N b z ot) := by
  have hz := nx_le (tx := tx) hra
  unfold mdI
  split
  · split
    · exact RdG_up (mdY_G hz)
    · exact RdG_no
  · split
    · exact RdG_up (mdP_G hz)
    · split
      · exact RdG_up (mdN_G hz)
      · split
        · exact RdG_up (mdS_G hz)
        · split
          · exact RdG_up (mdW_G hz)
          · exact RdG_no
/-- a text read -/
def rdM (tx : Nat → Int32) (N : Nat) : Nat → Nat → M4 → (Nat → Int32) → Bool × Nat × M4 × (Nat → Int32)
  | 0, n, w, q => (false, n, w, q)
  | F + 1, n, w, q => if (mdI tx N (decide (n = 0)) w q).1 = true then (if skF (fun k => wth (tx k) 32 32) N (mdI tx N (decide (n = 0)) w q).2.1.1 < N then rdM tx N F (n + 1) (skF (fun k => wth (tx k) 32 32) N (mdI tx N (decide (n = 0)) w q).2.1.1, (mdI tx N (decide (n = 0)) w q).2.1.2) (mdI tx N (decide (n = 0)) w q).2.2 else (true, n + 1, (skF (fun k => wth (tx k) 32 32) N (mdI tx N (decide (n = 0)) w q).2.1.1, (mdI tx N (decide (n = 0)) w q).2.1.2), (mdI tx N (decide (n = 0)) w q).2.2)) else (false, n, (mdI tx N (decide (n = 0)) w q).2.1, (mdI tx N (decide (n = 0)) w q).2.2)
set_option maxHeartbeats 4000000 in
set_option maxRecDepth 100000 in
theorem kX9_readsYard (l : Launch) (g : gG) (o : Nat → Nat) (ab be : Int64) (lm : Nat) (z : M4) (um ua : Nat) (hh : Int64) (tx ot : Nat → Int32)  (hN : lm ≤ 150) (hra : z.1 ≤ lm) (hw : Wf ot) : Met l yX9_readsYard (.code yX9_readsYard cX9_readsYard 2 (some .boolean) :: gw) (rmN 4) (va_Pc [.ref (o 0)] (rwPre g (mT g o ab be lm z um ua hh ++ (aW g (o 6) 150 tx ++ (aW g (o 4) 45 ot ++ []))))) (rwQi g (mT g o ab be lm z um ua hh ++ (aW g (o 6) 150 tx ++ (aW g (o 4) 45 ot ++ []))) (mT g o ab be lm (mdY tx lm z ot).2.1 um ua hh ++ (aW g (o 6) 150 tx ++ (aW g (o 4) 45 (mdY tx lm z ot).2.2 ++ []))) (b2i (mdY tx lm z ot).1)) 0 0 (dm (mT g o ab be lm z um ua hh ++ (aW g (o 6) 150 tx ++ (aW g (o 4) 45 ot ++ [])))) := by
  refine met_start (by decide) (Nat.le_of_ble_eq_true rfl) ?_
  intro pp ee ss mm bl mt cd hC hpre ls hl
  obtain ⟨⟨hx, hb, hml, hown, hts⟩, hr, hlk, hnm⟩ := id hC
  have hl : lv_has ls 2 [(0, .ref (o 0))] := hl
  obtain ⟨hP, hK, hD⟩ := hpre
  have hS : va_S (dm (mT g o ab be lm z um ua hh ++ (aW g (o 6) 150 tx ++ (aW g (o 4) 45 ot ++ [])))) ss.heap ss.heap [] := va_S.rf
  have hD := vD_self hD
  refine lv_aload_n hx hb dX9_readsYard_0 rfl (lv_at hl 0 rfl) ?_
  refine lv_iconst (v := 0) hx hb dX9_readsYard_1 rfl ?_
  refine lv_bipush (v := 99) hx hb dX9_readsYard_2 rfl ?_
  refine rw_i (run_V (As := [.int (0), .int (99)]) (rest := []) hC.1 ckX9_number (kX9_number l g o ab be lm z um ua hh tx 0 99 hN hra) (gw_in m_1107 rfl) (fb_rw _ _ _) (va_recv hK.1 (kP_app.mp hP).1 (q0 := 0) rfl rfl) (fun U hU hW => ⟨by rw [hU]; exact (kP_app.mpr ⟨(kP_app.mp hP).1, (kP_app.mpr ⟨(kP_app.mp (kP_app.mp hP).2).1, kP_nil⟩)⟩), kK_warm hW hK, vD_sub (sbA _ (sbA _ (sb0 _))) hD⟩) ⟨rfl, rfl, Nat.le_of_ble_eq_true rfl, Nat.le_of_ble_eq_true rfl⟩ rfl hl.1 rfl (Nat.le_of_ble_eq_true rfl) dX9_readsYard_4 ⟨Nat.le_of_ble_eq_true rfl, Nat.le_of_ble_eq_true rfl⟩) (adr_app mT_adr (adr_app rfl rfl)) (asc2 _ _ _) (ww' := mT g o ab be lm (nmZ tx lm 0 99 z) um ua hh ++ (aW g (o 6) 150 tx ++ (aW g (o 4) 45 ot ++ []))) (asc2 _ _ _) hP hD hS (fun H locs hP hD hS => ?_)
  refine lv_istore_n (lv' := [(1, .int (nmX tx lm 0 99 z)), (0, .ref (o 0))]) hx hb dX9_readsYard_7 rfl hl (by decide) rfl (fun ls hl => ?_)
  refine lv_iload_n hx hb dX9_readsYard_8 rfl (lv_at hl 0 rfl) ?_
  refine lv_iconst (v := -1) hx hb dX9_readsYard_9 rfl ?_
  refine lv_icmp_eq (tgt := 20) hx hb dX9_readsYard_10 (by decide) (fun c1 => ?_) (fun c1 => ?_)
  · skip
    have hbc1 := nm_no (by decide) c1
    have hP : kP g (mT g o ab be lm (flZ (nxZ tx lm z)) um ua hh ++ (aW g (o 6) 150 tx ++ (aW g (o 4) 45 ot ++ []))) _ := kP_eq (by rw [show (nmZ tx lm 0 99 z) = (flZ (nxZ tx lm z)) from if_neg (by rw [hbc1]; decide)]) hP
    have hD : va_D _ (mT g o ab be lm (flZ (nxZ tx lm z)) um ua hh ++ (aW g (o 6) 150 tx ++ (aW g (o 4) 45 ot ++ []))) := vD_eq (by rw [show (nmZ tx lm 0 99 z) = (flZ (nxZ tx lm z)) from if_neg (by rw [hbc1]; decide)]) hD
    refine lv_iconst (v := 0) hx hb dX9_readsYard_20 rfl ?_
    exact ret_rwz hx hb hr hlk rfl (by simp only [mdY, hbc1, b2i, eq_self, if_true, if_false, Bool.false_eq_true]) (kP_eq (by simp only [mdY, hbc1, eq_self, if_true, if_false, Bool.false_eq_true]) hP) hS dX9_readsYard_21
  · skip
    have hbc1 := nm_yes c1
    have hP : kP g (mT g o ab be lm (nxZ tx lm z) um ua hh ++ (aW g (o 6) 150 tx ++ (aW g (o 4) 45 ot ++ []))) _ := kP_eq (by rw [show (nmZ tx lm 0 99 z) = (nxZ tx lm z) from if_pos hbc1]) hP
    have hD : va_D _ (mT g o ab be lm (nxZ tx lm z) um ua hh ++ (aW g (o 6) 150 tx ++ (aW g (o 4) 45 ot ++ []))) := vD_eq (by rw [show (nmZ tx lm 0 99 z) = (nxZ tx lm z) from if_pos hbc1]) hD
    have hl : lv_has ls 2 [(1, .int (nmV tx (nxZ tx lm z))), (0, .ref (o 0))] := by rw [show nmV tx (nxZ tx lm z) = nmX tx lm 0 99 z from (if_pos hbc1).symm]; exact hl
    have hzc1 := nx_le (tx := tx) hra
    refine lv_aload_n hx hb dX9_readsYard_13 rfl (lv_at hl 1 rfl) ?_
    refine rw_i (run_V (As := []) (rest := []) hC.1 ckX9_ends (kX9_ends l g o ab be lm (nxZ tx lm z) um ua hh tx hN hzc1) (gw_in m_1115 rfl) (fb_rw _ _ _) (va_recv hK.1 (kP_app.mp hP).1 (q0 := 0) rfl rfl) (fun U hU hW => ⟨by rw [hU]; exact (kP_app.mpr ⟨(kP_app.mp hP).1, (kP_app.mpr ⟨(kP_app.mp (kP_app.mp hP).2).1, kP_nil⟩)⟩), kK_warm hW hK, vD_sub (sbA _ (sbA _ (sb0 _))) hD⟩) ⟨rfl, rfl, Nat.le_of_ble_eq_true rfl, Nat.le_of_ble_eq_true rfl⟩ rfl hl.1 rfl (Nat.le_of_ble_eq_true rfl) dX9_readsYard_14 ⟨Nat.le_of_ble_eq_true rfl, Nat.le_of_ble_eq_true rfl⟩) (adr_app mT_adr (adr_app rfl rfl)) (asc2 _ _ _) (ww' := mT g o ab be lm (enZ tx lm (nxZ tx lm z)) um ua hh ++ (aW g (o 6) 150 tx ++ (aW g (o 4) 45 ot ++ []))) (asc2 _ _ _) hP hD hS (fun H locs hP hD hS => ?_)
    refine lv_if_ne (tgt := 22) hx hb dX9_readsYard_17 (by decide) (fun c2 => ?_) (fun c2 => ?_)
    · skip
      have c2 := b2i_1 c2
      have hP : kP g (mT g o ab be lm (nxZ tx lm (nxZ tx lm z)) um ua hh ++ (aW g (o 6) 150 tx ++ (aW g (o 4) 45 ot ++ []))) _ := kP_eq (by rw [show (enZ tx lm (nxZ tx lm z)) = (nxZ tx lm (nxZ tx lm z)) from if_pos c2]) hP
      have hD : va_D _ (mT g o ab be lm (nxZ tx lm (nxZ tx lm z)) um ua hh ++ (aW g (o 6) 150 tx ++ (aW g (o 4) 45 ot ++ []))) := vD_eq (by rw [show (enZ tx lm (nxZ tx lm z)) = (nxZ tx lm (nxZ tx lm z)) from if_pos c2]) hD
      refine lv_aload_n hx hb dX9_readsYard_22 rfl (lv_at hl 1 rfl) ?_
      refine kget hC.1 hK (kP_app.mp hP).1 0 rfl rfl in_9 5 (by decide) (gw_in m_965 rfl) rfl dX9_readsYard_23 ?_
      refine lv_iload_n hx hb dX9_readsYard_26 rfl (lv_at hl 0 rfl) ?_
      have hP : kP g (aW g (o 4) 45 ot ++ (mT g o ab be lm (nxZ tx lm (nxZ tx lm z)) um ua hh ++ (aW g (o 6) 150 tx ++ []))) _ := kP_perm ((pmA _ (pm_swap _ _ _)).trans (pm_swap _ _ _)) hP
      have hD : va_D _ (aW g (o 4) 45 ot ++ (mT g o ab be lm (nxZ tx lm (nxZ tx lm z)) um ua hh ++ (aW g (o 6) 150 tx ++ []))) := vD_perm ((pmA _ (pm_swap _ _ _)).trans (pm_swap _ _ _)) hD
      refine rw_v (run_S (As := [.ref (o 4), .int (nmV tx (nxZ tx lm z))]) (rest := []) hC.1 ckX9_begins (kX9_begins l g (o 4) ot (nmV tx (nxZ tx lm z))) (gw_in m_1053 rfl) (fb_rw _ _ _) (fun U hU hW => ⟨by rw [hU]; exact (kP_app.mpr ⟨(kP_app.mp hP).1, kP_nil⟩), kK_warm hW hK, vD_sub (sbA _ (sb0 _)) hD⟩) ⟨rfl, rfl, Nat.le_of_ble_eq_true rfl, Nat.le_of_ble_eq_true rfl⟩ rfl hl.1 rfl (Nat.le_of_ble_eq_true rfl) dX9_readsYard_27 ⟨Nat.le_of_ble_eq_true rfl, Nat.le_of_ble_eq_true rfl⟩) (adr_app aW_adr rfl) (asc1 _ _) (ww' := aW g (o 4) 45 (upd (fun _ => 0) 0 (nmV tx (nxZ tx lm z))) ++ (mT g o ab be lm (nxZ tx lm (nxZ tx lm z)) um ua hh ++ (aW g (o 6) 150 tx ++ []))) (asc1 _ _) hP hD hS (fun H locs hP hD hS => ?_)
      refine lv_iconst (v := 1) hx hb dX9_readsYard_30 rfl ?_
      have hP : kP g (mT g o ab be lm (nxZ tx lm (nxZ tx lm z)) um ua hh ++ (aW g (o 6) 150 tx ++ (aW g (o 4) 45 (upd (fun _ => 0) 0 (nmV tx (nxZ tx lm z))) ++ []))) _ := kP_perm ((pm_swap _ _ _).trans (pmA _ (pm_swap _ _ _))) hP
      have hD : va_D _ (mT g o ab be lm (nxZ tx lm (nxZ tx lm z)) um ua hh ++ (aW g (o 6) 150 tx ++ (aW g (o 4) 45 (upd (fun _ => 0) 0 (nmV tx (nxZ tx lm z))) ++ []))) := vD_perm ((pm_swap _ _ _).trans (pmA _ (pm_swap _ _ _))) hD
      exact ret_rwz hx hb hr hlk rfl (by simp only [mdY, hbc1, c2, b2i, eq_self, if_true, if_false, Bool.false_eq_true]) (kP_eq (by simp only [mdY, hbc1, c2, eq_self, if_true, if_false, Bool.false_eq_true]) hP) hS dX9_readsYard_31
    · skip
      have c2 := b2i_0 c2
      have hP : kP g (mT g o ab be lm (flZ (nxZ tx lm (nxZ tx lm z))) um ua hh ++ (aW g (o 6) 150 tx ++ (aW g (o 4) 45 ot ++ []))) _ := kP_eq (by rw [show (enZ tx lm (nxZ tx lm z)) = (flZ (nxZ tx lm (nxZ tx lm z))) from if_neg (by rw [c2]; decide)]) hP
      have hD : va_D _ (mT g o ab be lm (flZ (nxZ tx lm (nxZ tx lm z))) um ua hh ++ (aW g (o 6) 150 tx ++ (aW g (o 4) 45 ot ++ []))) := vD_eq (by rw [show (enZ tx lm (nxZ tx lm z)) = (flZ (nxZ tx lm (nxZ tx lm z))) from if_neg (by rw [c2]; decide)]) hD
      refine lv_iconst (v := 0) hx hb dX9_readsYard_20 rfl ?_
      exact ret_rwz hx hb hr hlk rfl (by simp only [mdY, hbc1, c2, b2i, eq_self, if_true, if_false, Bool.false_eq_true]) (kP_eq (by simp only [mdY, hbc1, c2, eq_self, if_true, if_false, Bool.false_eq_true]) hP) hS dX9_readsYard_21
set_option maxHeartbeats 4000000 in
set_option maxRecDepth 100000 in
theorem kX9_readsWait (l : Launch) (g : gG) (o : Nat → Nat) (ab be : Int64) (lm : Nat) (z : M4) (um ua : Nat) (hh : Int64) (tx ot : Nat → Int32)  (hN : lm ≤ 150) (hra : z.1 ≤ lm) (hw : Wf ot) : Met l yX9_readsWait (.code yX9_readsWait cX9_readsWait 2 (some .boolean) :: gw) (rmN 4) (va_Pc [.ref (o 0)] (rwPre g (mT g o ab be lm z um ua hh ++ (aW g (o 6) 150 tx ++ (aW g (o 4) 45 ot ++ []))))) (rwQi g (mT g o ab be lm z um ua hh ++ (aW g (o 6) 150 tx ++ (aW g (o 4) 45 ot ++ []))) (mT g o ab be lm (mdW tx lm z ot).2.1 um ua hh ++ (aW g (o 6) 150 tx ++ (aW g (o 4) 45 (mdW tx lm z ot).2.2 ++ []))) (b2i (mdW tx lm z ot).1)) 0 0 (dm (mT g o ab be lm z um ua hh ++ (aW g (o 6) 150 tx ++ (aW g (o 4) 45 ot ++ [])))) := by
  refine met_start (by decide) (Nat.le_of_ble_eq_true rfl) ?_
  intro pp ee ss mm bl mt cd hC hpre ls hl
  obtain ⟨⟨hx, hb, hml, hown, hts⟩, hr, hlk, hnm⟩ := id hC
  have hl : lv_has ls 2 [(0, .ref (o 0))] := hl
  obtain ⟨hP, hK, hD⟩ := hpre
  have hS : va_S (dm (mT g o ab be lm z um ua hh ++ (aW g (o 6) 150 tx ++ (aW g (o 4) 45 ot ++ [])))) ss.heap ss.heap [] := va_S.rf
  have hD := vD_self hD
  refine lv_aload_n hx hb dX9_readsWait_0 rfl (lv_at hl 0 rfl) ?_
  refine lv_iconst (v := 1) hx hb dX9_readsWait_1 rfl ?_
  refine lv_bipush (v := 99) hx hb dX9_readsWait_2 rfl ?_
  refine rw_i (run_V (As := [.int (1), .int (99)]) (rest := []) hC.1 ckX9_number (kX9_number l g o ab be lm z um ua hh tx 1 99 hN hra) (gw_in m_1107 rfl) (fb_rw _ _ _) (va_recv hK.1 (kP_app.mp hP).1 (q0 := 0) rfl rfl) (fun U hU hW => ⟨by rw [hU]; exact (kP_app.mpr ⟨(kP_app.mp hP).1, (kP_app.mpr ⟨(kP_app.mp (kP_app.mp hP).2).1, kP_nil⟩)⟩), kK_warm hW hK, vD_sub (sbA _ (sbA _ (sb0 _))) hD⟩) ⟨rfl, rfl, Nat.le_of_ble_eq_true rfl, Nat.le_of_ble_eq_true rfl⟩ rfl hl.1 rfl (Nat.le_of_ble_eq_true rfl) dX9_readsWait_4 ⟨Nat.le_of_ble_eq_true rfl, Nat.le_of_ble_eq_true rfl⟩) (adr_app mT_adr (adr_app rfl rfl)) (asc2 _ _ _) (ww' := mT g o ab be lm (nmZ tx lm 1 99 z) um ua hh ++ (aW g (o 6) 150 tx ++ (aW g (o 4) 45 ot ++ []))) (asc2 _ _ _) hP hD hS (fun H locs hP hD hS => ?_)
  refine lv_istore_n (lv' := [(1, .int (nmX tx lm 1 99 z)), (0, .ref (o 0))]) hx hb dX9_readsWait_7 rfl hl (by decide) rfl (fun ls hl => ?_)
  refine lv_iload_n hx hb dX9_readsWait_8 rfl (lv_at hl 0 rfl) ?_
  refine lv_iconst (v := -1) hx hb dX9_readsWait_9 rfl ?_
  refine lv_icmp_eq (tgt := 20) hx hb dX9_readsWait_10 (by decide) (fun c1 => ?_) (fun c1 => ?_)
  · skip
    have hbc1 := nm_no (by decide) c1
    have hP : kP g (mT g o ab be lm (flZ (nxZ tx lm z)) um ua hh ++ (aW g (o 6) 150 tx ++ (aW g (o 4) 45 ot ++ []))) _ := kP_eq (by rw [show (nmZ tx lm 1 99 z) = (flZ (nxZ tx lm z)) from if_neg (by rw [hbc1]; decide)]) hP
    have hD : va_D _ (mT g o ab be lm (flZ (nxZ tx lm z)) um ua hh ++ (aW g (o 6) 150 tx ++ (aW g (o 4) 45 ot ++ []))) := vD_eq (by rw [show (nmZ tx lm 1 99 z) = (flZ (nxZ tx lm z)) from if_neg (by rw [hbc1]; decide)]) hD
    refine lv_iconst (v := 0) hx hb dX9_readsWait_20 rfl ?_
    exact ret_rwz hx hb hr hlk rfl (by simp only [mdW, hbc1, b2i, eq_self, if_true, if_false, Bool.false_eq_true]) (kP_eq (by simp only [mdW, hbc1, eq_self, if_true, if_false, Bool.false_eq_true]) hP) hS dX9_readsWait_21
  · skip
    have hbc1 := nm_yes c1
    have hP : kP g (mT g o ab be lm (nxZ tx lm z) um ua hh ++ (aW g (o 6) 150 tx ++ (aW g (o 4) 45 ot ++ []))) _ := kP_eq (by rw [show (nmZ tx lm 1 99 z) = (nxZ tx lm z) from if_pos hbc1]) hP
    have hD : va_D _ (mT g o ab be lm (nxZ tx lm z) um ua hh ++ (aW g (o 6) 150 tx ++ (aW g (o 4) 45 ot ++ []))) := vD_eq (by rw [show (nmZ tx lm 1 99 z) = (nxZ tx lm z) from if_pos hbc1]) hD
    have hl : lv_has ls 2 [(1, .int (nmV tx (nxZ tx lm z))), (0, .ref (o 0))] := by rw [show nmV tx (nxZ tx lm z) = nmX tx lm 1 99 z from (if_pos hbc1).symm]; exact hl
    have hzc1 := nx_le (tx := tx) hra
    refine lv_aload_n hx hb dX9_readsWait_13 rfl (lv_at hl 1 rfl) ?_
    refine rw_i (run_V (As := []) (rest := []) hC.1 ckX9_ends (kX9_ends l g o ab be lm (nxZ tx lm z) um ua hh tx hN hzc1) (gw_in m_1115 rfl) (fb_rw _ _ _) (va_recv hK.1 (kP_app.mp hP).1 (q0 := 0) rfl rfl) (fun U hU hW => ⟨by rw [hU]; exact (kP_app.mpr ⟨(kP_app.mp hP).1, (kP_app.mpr ⟨(kP_app.mp (kP_app.mp hP).2).1, kP_nil⟩)⟩), kK_warm hW hK, vD_sub (sbA _ (sbA _ (sb0 _))) hD⟩) ⟨rfl, rfl, Nat.le_of_ble_eq_true rfl, Nat.le_of_ble_eq_true rfl⟩ rfl hl.1 rfl (Nat.le_of_ble_eq_true rfl) dX9_readsWait_14 ⟨Nat.le_of_ble_eq_true rfl, Nat.le_of_ble_eq_true rfl⟩) (adr_app mT_adr (adr_app rfl rfl)) (asc2 _ _ _) (ww' := mT g o ab be lm (enZ tx lm (nxZ tx lm z)) um ua hh ++ (aW g (o 6) 150 tx ++ (aW g (o 4) 45 ot ++ []))) (asc2 _ _ _) hP hD hS (fun H locs hP hD hS => ?_)
    refine lv_if_ne (tgt := 22) hx hb dX9_readsWait_17 (by decide) (fun c2 => ?_) (fun c2 => ?_)
    · skip
      have c2 := b2i_1 c2
      have hP : kP g (mT g o ab be lm (nxZ tx lm (nxZ tx lm z)) um ua hh ++ (aW g (o 6) 150 tx ++ (aW g (o 4) 45 ot ++ []))) _ := kP_eq (by rw [show (enZ tx lm (nxZ tx lm z)) = (nxZ tx lm (nxZ tx lm z)) from if_pos c2]) hP
      have hD : va_D _ (mT g o ab be lm (nxZ tx lm (nxZ tx lm z)) um ua hh ++ (aW g (o 6) 150 tx ++ (aW g (o 4) 45 ot ++ []))) := vD_eq (by rw [show (enZ tx lm (nxZ tx lm z)) = (nxZ tx lm (nxZ tx lm z)) from if_pos c2]) hD
      refine lv_aload_n hx hb dX9_readsWait_22 rfl (lv_at hl 1 rfl) ?_
      refine kget hC.1 hK (kP_app.mp hP).1 0 rfl rfl in_9 5 (by decide) (gw_in m_965 rfl) rfl dX9_readsWait_23 ?_
      refine lv_iload_n hx hb dX9_readsWait_26 rfl (lv_at hl 0 rfl) ?_
      have hP : kP g (aW g (o 4) 45 ot ++ (mT g o ab be lm (nxZ tx lm (nxZ tx lm z)) um ua hh ++ (aW g (o 6) 150 tx ++ []))) _ := kP_perm ((pmA _ (pm_swap _ _ _)).trans (pm_swap _ _ _)) hP
      have hD : va_D _ (aW g (o 4) 45 ot ++ (mT g o ab be lm (nxZ tx lm (nxZ tx lm z)) um ua hh ++ (aW g (o 6) 150 tx ++ []))) := vD_perm ((pmA _ (pm_swap _ _ _)).trans (pm_swap _ _ _)) hD
      refine rw_v (run_S (As := [.ref (o 4), .int (nmV tx (nxZ tx lm z))]) (rest := []) hC.1 ckX9_passes (kX9_passes l g (o 4) ot (nmV tx (nxZ tx lm z))) (gw_in m_1168 rfl) (fb_rw _ _ _) (fun U hU hW => ⟨by rw [hU]; exact (kP_app.mpr ⟨(kP_app.mp hP).1, kP_nil⟩), kK_warm hW hK, vD_sub (sbA _ (sb0 _)) hD⟩) ⟨rfl, rfl, Nat.le_of_ble_eq_true rfl, Nat.le_of_ble_eq_true rfl⟩ rfl hl.1 rfl (Nat.le_of_ble_eq_true rfl) dX9_readsWait_27 ⟨Nat.le_of_ble_eq_true rfl, Nat.le_of_ble_eq_true rfl⟩) (adr_app aW_adr rfl) (asc1 _ _) (ww' := aW g (o 4) 45 (upd ot 0 (if 9999 < ot 0 + (nmV tx (nxZ tx lm z)) then 9999 else ot 0 + (nmV tx (nxZ tx lm z)))) ++ (mT g o ab be lm (nxZ tx lm (nxZ tx lm z)) um ua hh ++ (aW g (o 6) 150 tx ++ []))) (asc1 _ _) hP hD hS (fun H locs hP hD hS => ?_)
      refine lv_iconst (v := 1) hx hb dX9_readsWait_30 rfl ?_
      have hP : kP g (mT g o ab be lm (nxZ tx lm (nxZ tx lm z)) um ua hh ++ (aW g (o 6) 150 tx ++ (aW g (o 4) 45 (upd ot 0 (if 9999 < ot 0 + (nmV tx (nxZ tx lm z)) then 9999 else ot 0 + (nmV tx (nxZ tx lm z)))) ++ []))) _ := kP_perm ((pm_swap _ _ _).trans (pmA _ (pm_swap _ _ _))) hP
      have hD : va_D _ (mT g o ab be lm (nxZ tx lm (nxZ tx lm z)) um ua hh ++ (aW g (o 6) 150 tx ++ (aW g (o 4) 45 (upd ot 0 (if 9999 < ot 0 + (nmV tx (nxZ tx lm z)) then 9999 else ot 0 + (nmV tx (nxZ tx lm z)))) ++ []))) := vD_perm ((pm_swap _ _ _).trans (pmA _ (pm_swap _ _ _))) hD
      exact ret_rwz hx hb hr hlk rfl (by simp only [mdW, hbc1, c2, b2i, eq_self, if_true, if_false, Bool.false_eq_true]) (kP_eq (by simp only [mdW, hbc1, c2, eq_self, if_true, if_false, Bool.false_eq_true]) hP) hS dX9_readsWait_31
    · skip
      have c2 := b2i_0 c2
      have hP : kP g (mT g o ab be lm (flZ (nxZ tx lm (nxZ tx lm z))) um ua hh ++ (aW g (o 6) 150 tx ++ (aW g (o 4) 45 ot ++ []))) _ := kP_eq (by rw [show (enZ tx lm (nxZ tx lm z)) = (flZ (nxZ tx lm (nxZ tx lm z))) from if_neg (by rw [c2]; decide)]) hP
      have hD : va_D _ (mT g o ab be lm (flZ (nxZ tx lm (nxZ tx lm z))) um ua hh ++ (aW g (o 6) 150 tx ++ (aW g (o 4) 45 ot ++ []))) := vD_eq (by rw [show (enZ tx lm (nxZ tx lm z)) = (flZ (nxZ tx lm (nxZ tx lm z))) from if_neg (by rw [c2]; decide)]) hD
      refine lv_iconst (v := 0) hx hb dX9_readsWait_20 rfl ?_
      exact ret_rwz hx hb hr hlk rfl (by simp only [mdW, hbc1, c2, b2i, eq_self, if_true, if_false, Bool.false_eq_true]) (kP_eq (by simp only [mdW, hbc1, c2, eq_self, if_true, if_false, Bool.false_eq_true]) hP) hS dX9_readsWait_21
set_option maxHeartbeats 4000000 in
set_option maxRecDepth 100000 in
theorem kX9_readsPlayer (l : Launch) (g : gG) (o : Nat → Nat) (ab be : Int64) (lm : Nat) (z : M4) (um ua : Nat) (hh : Int64) (tx ot : Nat → Int32)  (hN : lm ≤ 150) (hra : z.1 ≤ lm) (hw : Wf ot) : Met l yX9_readsPlayer (.code yX9_readsPlayer cX9_readsPlayer 3 (some .boolean) :: gw) (rmN 4) (va_Pc [.ref (o 0)] (rwPre g (mT g o ab be lm z um ua hh ++ (aW g (o 6) 150 tx ++ (aW g (o 4) 45 ot ++ []))))) (rwQi g (mT g o ab be lm z um ua hh ++ (aW g (o 6) 150 tx ++ (aW g (o 4) 45 ot ++ []))) (mT g o ab be lm (mdP tx lm z ot).2.1 um ua hh ++ (aW g (o 6) 150 tx ++ (aW g (o 4) 45 (mdP tx lm z ot).2.2 ++ []))) (b2i (mdP tx lm z ot).1)) 0 0 (dm (mT g o ab be lm z um ua hh ++ (aW g (o 6) 150 tx ++ (aW g (o 4) 45 ot ++ [])))) := by
  refine met_start (by decide) (Nat.le_of_ble_eq_true rfl) ?_
  intro pp ee ss mm bl mt cd hC hpre ls hl
  obtain ⟨⟨hx, hb, hml, hown, hts⟩, hr, hlk, hnm⟩ := id hC
  have hl : lv_has ls 3 [(0, .ref (o 0))] := hl
  obtain ⟨hP, hK, hD⟩ := hpre
  have hS : va_S (dm (mT g o ab be lm z um ua hh ++ (aW g (o 6) 150 tx ++ (aW g (o 4) 45 ot ++ [])))) ss.heap ss.heap [] := va_S.rf
  have hD := vD_self hD
  refine lv_aload_n hx hb dX9_readsPlayer_0 rfl (lv_at hl 0 rfl) ?_
  refine kget hC.1 hK (kP_app.mp hP).1 0 rfl rfl in_9 5 (by decide) (gw_in m_965 rfl) rfl dX9_readsPlayer_1 ?_
  refine lv_iconst (v := 1) hx hb dX9_readsPlayer_4 rfl ?_
  refine kald (v := ot 1) hC.1 hK (kP_app.mp (kP_app.mp (kP_app.mp hP).2).2).1 0 rfl (show vp_in (nI 1) 45 from vp_in_nI (by omega) (by omega)) (congrArg ot (show cl 1 = 1 from by decide)) dX9_readsPlayer_5 ?_
  refine lv_iconst (v := 3) hx hb dX9_readsPlayer_6 rfl ?_
  refine lv_icmp_ne (tgt := 17) hx hb dX9_readsPlayer_7 (by decide) (fun c1 => ?_) (fun c1 => ?_)
  · skip
    refine lv_aload_n hx hb dX9_readsPlayer_17 rfl (lv_at hl 0 rfl) ?_
    refine lv_iconst (v := 0) hx hb dX9_readsPlayer_18 rfl ?_
    refine lv_iconst (v := 5) hx hb dX9_readsPlayer_19 rfl ?_
    refine rw_i (run_V (As := [.int (0), .int (5)]) (rest := []) hC.1 ckX9_number (kX9_number l g o ab be lm z um ua hh tx 0 5 hN hra) (gw_in m_1107 rfl) (fb_rw _ _ _) (va_recv hK.1 (kP_app.mp hP).1 (q0 := 0) rfl rfl) (fun U hU hW => ⟨by rw [hU]; exact (kP_app.mpr ⟨(kP_app.mp hP).1, (kP_app.mpr ⟨(kP_app.mp (kP_app.mp hP).2).1, kP_nil⟩)⟩), kK_warm hW hK, vD_sub (sbA _ (sbA _ (sb0 _))) hD⟩) ⟨rfl, rfl, Nat.le_of_ble_eq_true rfl, Nat.le_of_ble_eq_true rfl⟩ rfl hl.1 rfl (Nat.le_of_ble_eq_true rfl) dX9_readsPlayer_20 ⟨Nat.le_of_ble_eq_true rfl, Nat.le_of_ble_eq_true rfl⟩) (adr_app mT_adr (adr_app rfl rfl)) (asc2 _ _ _) (ww' := mT g o ab be lm (nmZ tx lm 0 5 z) um ua hh ++ (aW g (o 6) 150 tx ++ (aW g (o 4) 45 ot ++ []))) (asc2 _ _ _) hP hD hS (fun H locs hP hD hS => ?_)
    refine lv_istore_n (lv' := [(1, .int (nmX tx lm 0 5 z)), (0, .ref (o 0))]) hx hb dX9_readsPlayer_23 rfl hl (by decide) rfl (fun ls hl => ?_)
    refine lv_iload_n hx hb dX9_readsPlayer_24 rfl (lv_at hl 0 rfl) ?_
    refine lv_iconst (v := -1) hx hb dX9_readsPlayer_25 rfl ?_
    refine lv_icmp_ne (tgt := 33) hx hb dX9_readsPlayer_26 (by decide) (fun c2 => ?_) (fun c2 => ?_)
    · skip
      have hbc2 := nm_yes c2
      have hP : kP g (mT g o ab be lm (nxZ tx lm z) um ua hh ++ (aW g (o 6) 150 tx ++ (aW g (o 4) 45 ot ++ []))) _ := kP_eq (by rw [show (nmZ tx lm 0 5 z) = (nxZ tx lm z) from if_pos hbc2]) hP
      have hD : va_D _ (mT g o ab be lm (nxZ tx lm z) um ua hh ++ (aW g (o 6) 150 tx ++ (aW g (o 4) 45 ot ++ []))) := vD_eq (by rw [show (nmZ tx lm 0 5 z) = (nxZ tx lm z) from if_pos hbc2]) hD
      have hl : lv_has ls 3 [(1, .int (nmV tx (nxZ tx lm z))), (0, .ref (o 0))] := by rw [show nmV tx (nxZ tx lm z) = nmX tx lm 0 5 z from (if_pos hbc2).symm]; exact hl
      have hzc2 := nx_le (tx := tx) hra
      refine lv_aload_n hx hb dX9_readsPlayer_33 rfl (lv_at hl 1 rfl) ?_
      refine lv_iconst (v := 1) hx hb dX9_readsPlayer_34 rfl ?_
      refine lv_bipush (v := 9) hx hb dX9_readsPlayer_35 rfl ?_
      refine rw_i (run_V (As := [.int (1), .int (9)]) (rest := []) hC.1 ckX9_number (kX9_number l g o ab be lm (nxZ tx lm z) um ua hh tx 1 9 hN hzc2) (gw_in m_1107 rfl) (fb_rw _ _ _) (va_recv hK.1 (kP_app.mp hP).1 (q0 := 0) rfl rfl) (fun U hU hW => ⟨by rw [hU]; exact (kP_app.mpr ⟨(kP_app.mp hP).1, (kP_app.mpr ⟨(kP_app.mp (kP_app.mp hP).2).1, kP_nil⟩)⟩), kK_warm hW hK, vD_sub (sbA _ (sbA _ (sb0 _))) hD⟩) ⟨rfl, rfl, Nat.le_of_ble_eq_true rfl, Nat.le_of_ble_eq_true rfl⟩ rfl hl.1 rfl (Nat.le_of_ble_eq_true rfl) dX9_readsPlayer_37 ⟨Nat.le_of_ble_eq_true rfl, Nat.le_of_ble_eq_true rfl⟩) (adr_app mT_adr (adr_app rfl rfl)) (asc2 _ _ _) (ww' := mT g o ab be lm (nmZ tx lm 1 9 (nxZ tx lm z)) um ua hh ++ (aW g (o 6) 150 tx ++ (aW g (o 4) 45 ot ++ []))) (asc2 _ _ _) hP hD hS (fun H locs hP hD hS => ?_)
      refine lv_istore_n (lv' := [(2, .int (nmX tx lm 1 9 (nxZ tx lm z))), (1, .int (nmV tx (nxZ tx lm z))), (0, .ref (o 0))]) hx hb dX9_readsPlayer_40 rfl hl (by decide) rfl (fun ls hl => ?_)
      refine lv_iload_n hx hb dX9_readsPlayer_41 rfl (lv_at hl 0 rfl) ?_
      refine lv_iconst (v := -1) hx hb dX9_readsPlayer_42 rfl ?_
      refine lv_icmp_eq (tgt := 53) hx hb dX9_readsPlayer_43 (by decide) (fun c3 => ?_) (fun c3 => ?_)
      · skip
        have hbc3 := nm_no (by decide) c3
        have hP : kP g (mT g o ab be lm (flZ (nxZ tx lm (nxZ tx lm z))) um ua hh ++ (aW g (o 6) 150 tx ++ (aW g (o 4) 45 ot ++ []))) _ := kP_eq (by rw [show (nmZ tx lm 1 9 (nxZ tx lm z)) = (flZ (nxZ tx lm (nxZ tx lm z))) from if_neg (by rw [hbc3]; decide)]) hP
        have hD : va_D _ (mT g o ab be lm (flZ (nxZ tx lm (nxZ tx lm z))) um ua hh ++ (aW g (o 6) 150 tx ++ (aW g (o 4) 45 ot ++ []))) := vD_eq (by rw [show (nmZ tx lm 1 9 (nxZ tx lm z)) = (flZ (nxZ tx lm (nxZ tx lm z))) from if_neg (by rw [hbc3]; decide)]) hD
        refine lv_iconst (v := 0) hx hb dX9_readsPlayer_53 rfl ?_
        exact ret_rwz hx hb hr hlk rfl (by simp only [mdP, c1, hbc2, hbc3, b2i, eq_self, if_true, if_false, Bool.false_eq_true]) (kP_eq (by simp only [mdP, c1, hbc2, hbc3, eq_self, if_true, if_false, Bool.false_eq_true]) hP) hS dX9_readsPlayer_54
      · skip
        have hbc3 := nm_yes c3
        have hP : kP g (mT g o ab be lm (nxZ tx lm (nxZ tx lm z)) um ua hh ++ (aW g (o 6) 150 tx ++ (aW g (o 4) 45 ot ++ []))) _ := kP_eq (by rw [show (nmZ tx lm 1 9 (nxZ tx lm z)) = (nxZ tx lm (nxZ tx lm z)) from if_pos hbc3]) hP
        have hD : va_D _ (mT g o ab be lm (nxZ tx lm (nxZ tx lm z)) um ua hh ++ (aW g (o 6) 150 tx ++ (aW g (o 4) 45 ot ++ []))) := vD_eq (by rw [show (nmZ tx lm 1 9 (nxZ tx lm z)) = (nxZ tx lm (nxZ tx lm z)) from if_pos hbc3]) hD
        have hl : lv_has ls 3 [(2, .int (nmV tx (nxZ tx lm (nxZ tx lm z)))), (1, .int (nmV tx (nxZ tx lm z))), (0, .ref (o 0))] := by rw [show nmV tx (nxZ tx lm (nxZ tx lm z)) = nmX tx lm 1 9 (nxZ tx lm z) from (if_pos hbc3).symm]; exact hl
        have hzc3 := nx_le (tx := tx) hzc2
        refine lv_aload_n hx hb dX9_readsPlayer_46 rfl (lv_at hl 2 rfl) ?_
        refine rw_i (run_V (As := []) (rest := []) hC.1 ckX9_ends (kX9_ends l g o ab be lm (nxZ tx lm (nxZ tx lm z)) um ua hh tx hN hzc3) (gw_in m_1115 rfl) (fb_rw _ _ _) (va_recv hK.1 (kP_app.mp hP).1 (q0 := 0) rfl rfl) (fun U hU hW => ⟨by rw [hU]; exact (kP_app.mpr ⟨(kP_app.mp hP).1, (kP_app.mpr ⟨(kP_app.mp (kP_app.mp hP).2).1, kP_nil⟩)⟩), kK_warm hW hK, vD_sub (sbA _ (sbA _ (sb0 _))) hD⟩) ⟨rfl, rfl, Nat.le_of_ble_eq_true rfl, Nat.le_of_ble_eq_true rfl⟩ rfl hl.1 rfl (Nat.le_of_ble_eq_true rfl) dX9_readsPlayer_47 ⟨Nat.le_of_ble_eq_true rfl, Nat.le_of_ble_eq_true rfl⟩) (adr_app mT_adr (adr_app rfl rfl)) (asc2 _ _ _) (ww' := mT g o ab be lm (enZ tx lm (nxZ tx lm (nxZ tx lm z))) um ua hh ++ (aW g (o 6) 150 tx ++ (aW g (o 4) 45 ot ++ []))) (asc2 _ _ _) hP hD hS (fun H locs hP hD hS => ?_)
        refine lv_if_ne (tgt := 55) hx hb dX9_readsPlayer_50 (by decide) (fun c4 => ?_) (fun c4 => ?_)
        · skip
          have c4 := b2i_1 c4
          have hP : kP g (mT g o ab be lm (nxZ tx lm (nxZ tx lm (nxZ tx lm z))) um ua hh ++ (aW g (o 6) 150 tx ++ (aW g (o 4) 45 ot ++ []))) _ := kP_eq (by rw [show (enZ tx lm (nxZ tx lm (nxZ tx lm z))) = (nxZ tx lm (nxZ tx lm (nxZ tx lm z))) from if_pos c4]) hP
          have hD : va_D _ (mT g o ab be lm (nxZ tx lm (nxZ tx lm (nxZ tx lm z))) um ua hh ++ (aW g (o 6) 150 tx ++ (aW g (o 4) 45 ot ++ []))) := vD_eq (by rw [show (enZ tx lm (nxZ tx lm (nxZ tx lm z))) = (nxZ tx lm (nxZ tx lm (nxZ tx lm z))) from if_pos c4]) hD
          refine lv_aload_n hx hb dX9_readsPlayer_55 rfl (lv_at hl 2 rfl) ?_
          refine kget hC.1 hK (kP_app.mp hP).1 0 rfl rfl in_9 5 (by decide) (gw_in m_965 rfl) rfl dX9_readsPlayer_56 ?_
          refine lv_iload_n hx hb dX9_readsPlayer_59 rfl (lv_at hl 1 rfl) ?_
          refine lv_iload_n hx hb dX9_readsPlayer_60 rfl (lv_at hl 0 rfl) ?_
          have hP : kP g (aW g (o 4) 45 ot ++ (mT g o ab be lm (nxZ tx lm (nxZ tx lm (nxZ tx lm z))) um ua hh ++ (aW g (o 6) 150 tx ++ []))) _ := kP_perm ((pmA _ (pm_swap _ _ _)).trans (pm_swap _ _ _)) hP
          have hD : va_D _ (aW g (o 4) 45 ot ++ (mT g o ab be lm (nxZ tx lm (nxZ tx lm (nxZ tx lm z))) um ua hh ++ (aW g (o 6) 150 tx ++ []))) := vD_perm ((pmA _ (pm_swap _ _ _)).trans (pm_swap _ _ _)) hD
          refine rw_i (run_S (As := [.ref (o 4), .int (nmV tx (nxZ tx lm z)), .int (nmV tx (nxZ tx lm (nxZ tx lm z)))]) (rest := []) hC.1 ckX9_joins (kX9_joins l g (o 4) ot (nmV tx (nxZ tx lm z)) (nmV tx (nxZ tx lm (nxZ tx lm z))) (pl_bd3 hw c1)) (gw_in m_1068 rfl) (fb_rw _ _ _) (fun U hU hW => ⟨by rw [hU]; exact (kP_app.mpr ⟨(kP_app.mp hP).1, kP_nil⟩), kK_warm hW hK, vD_sub (sbA _ (sb0 _)) hD⟩) ⟨rfl, rfl, Nat.le_of_ble_eq_true rfl, Nat.le_of_ble_eq_true rfl⟩ rfl hl.1 rfl (Nat.le_of_ble_eq_true rfl) dX9_readsPlayer_61 ⟨Nat.le_of_ble_eq_true rfl, Nat.le_of_ble_eq_true rfl⟩) (adr_app aW_adr rfl) (asc1 _ _) (ww' := aW g (o 4) 45 (adP ot (nmV tx (nxZ tx lm z)) (nmV tx (nxZ tx lm (nxZ tx lm z)))) ++ (mT g o ab be lm (nxZ tx lm (nxZ tx lm (nxZ tx lm z))) um ua hh ++ (aW g (o 6) 150 tx ++ []))) (asc1 _ _) hP hD hS (fun H locs hP hD hS => ?_)
          refine lv_pop hx hb dX9_readsPlayer_64 rfl ?_
          refine lv_iconst (v := 1) hx hb dX9_readsPlayer_65 rfl ?_
          have hP : kP g (mT g o ab be lm (nxZ tx lm (nxZ tx lm (nxZ tx lm z))) um ua hh ++ (aW g (o 6) 150 tx ++ (aW g (o 4) 45 (adP ot (nmV tx (nxZ tx lm z)) (nmV tx (nxZ tx lm (nxZ tx lm z)))) ++ []))) _ := kP_perm ((pm_swap _ _ _).trans (pmA _ (pm_swap _ _ _))) hP
          have hD : va_D _ (mT g o ab be lm (nxZ tx lm (nxZ tx lm (nxZ tx lm z))) um ua hh ++ (aW g (o 6) 150 tx ++ (aW g (o 4) 45 (adP ot (nmV tx (nxZ tx lm z)) (nmV tx (nxZ tx lm (nxZ tx lm z)))) ++ []))) := vD_perm ((pm_swap _ _ _).trans (pmA _ (pm_swap _ _ _))) hD
          exact ret_rwz hx hb hr hlk rfl (by simp only [mdP, c1, hbc2, hbc3, c4, b2i, eq_self, if_true, if_false, Bool.false_eq_true]) (kP_eq (by simp only [mdP, c1, hbc2, hbc3, c4, eq_self, if_true, if_false, Bool.false_eq_true]) hP) hS dX9_readsPlayer_66
        · skip
          have c4 := b2i_0 c4
          have hP : kP g (mT g o ab be lm (flZ (nxZ tx lm (nxZ tx lm (nxZ tx lm z)))) um ua hh ++ (aW g (o 6) 150 tx ++ (aW g (o 4) 45 ot ++ []))) _ := kP_eq (by rw [show (enZ tx lm (nxZ tx lm (nxZ tx lm z))) = (flZ (nxZ tx lm (nxZ tx lm (nxZ tx lm z)))) from if_neg (by rw [c4]; decide)]) hP
          have hD : va_D _ (mT g o ab be lm (flZ (nxZ tx lm (nxZ tx lm (nxZ tx lm z)))) um ua hh ++ (aW g (o 6) 150 tx ++ (aW g (o 4) 45 ot ++ []))) := vD_eq (by rw [show (enZ tx lm (nxZ tx lm (nxZ tx lm z))) = (flZ (nxZ tx lm (nxZ tx lm (nxZ tx lm z)))) from if_neg (by rw [c4]; decide)]) hD
          refine lv_iconst (v := 0) hx hb dX9_readsPlayer_53 rfl ?_
          exact ret_rwz hx hb hr hlk rfl (by simp only [mdP, c1, hbc2, hbc3, c4, b2i, eq_self, if_true, if_false, Bool.false_eq_true]) (kP_eq (by simp only [mdP, c1, hbc2, hbc3, c4, eq_self, if_true, if_false, Bool.false_eq_true]) hP) hS dX9_readsPlayer_54
    · skip
      have hbc2 := nm_no (by decide) c2
      have hP : kP g (mT g o ab be lm (flZ (nxZ tx lm z)) um ua hh ++ (aW g (o 6) 150 tx ++ (aW g (o 4) 45 ot ++ []))) _ := kP_eq (by rw [show (nmZ tx lm 0 5 z) = (flZ (nxZ tx lm z)) from if_neg (by rw [hbc2]; decide)]) hP
      have hD : va_D _ (mT g o ab be lm (flZ (nxZ tx lm z)) um ua hh ++ (aW g (o 6) 150 tx ++ (aW g (o 4) 45 ot ++ []))) := vD_eq (by rw [show (nmZ tx lm 0 5 z) = (flZ (nxZ tx lm z)) from if_neg (by rw [hbc2]; decide)]) hD
      refine lv_iconst (v := -1) hx hb dX9_readsPlayer_29 rfl ?_
      refine lv_goto (tgt := 40) hx hb dX9_readsPlayer_30 (by decide) ?_
      refine lv_istore_n (lv' := [(2, .int (-1)), (1, .int (nmX tx lm 0 5 z)), (0, .ref (o 0))]) hx hb dX9_readsPlayer_40 rfl hl (by decide) rfl (fun ls hl => ?_)
      refine lv_iload_n hx hb dX9_readsPlayer_41 rfl (lv_at hl 0 rfl) ?_
      refine lv_iconst (v := -1) hx hb dX9_readsPlayer_42 rfl ?_
      refine lv_icmp_eq (tgt := 53) hx hb dX9_readsPlayer_43 (by decide) (fun c5 => ?_) (fun c5 => ?_)
      · skip
        refine lv_iconst (v := 0) hx hb dX9_readsPlayer_53 rfl ?_
        exact ret_rwz hx hb hr hlk rfl (by simp only [mdP, c1, hbc2, b2i, eq_self, if_true, if_false, Bool.false_eq_true]) (kP_eq (by simp only [mdP, c1, hbc2, eq_self, if_true, if_false, Bool.false_eq_true]) hP) hS dX9_readsPlayer_54
      · skip
        exact absurd c5 (by decide)
  · skip
    refine lv_aload_n hx hb dX9_readsPlayer_10 rfl (lv_at hl 0 rfl) ?_
    refine rw_i (run_V (As := []) (rest := []) hC.1 ckX9_fails (kX9_fails l g o ab be lm z um ua hh) (gw_in m_1111 rfl) (fb_rw _ _ _) (va_recv hK.1 (kP_app.mp hP).1 (q0 := 0) rfl rfl) (fun U hU hW => ⟨by rw [hU]; exact (kP_app.mpr ⟨(kP_app.mp hP).1, kP_nil⟩), kK_warm hW hK, vD_sub (sbA _ (sb0 _)) hD⟩) ⟨rfl, rfl, Nat.le_of_ble_eq_true rfl, Nat.le_of_ble_eq_true rfl⟩ rfl hl.1 rfl (Nat.le_of_ble_eq_true rfl) dX9_readsPlayer_11 ⟨Nat.le_of_ble_eq_true rfl, Nat.le_of_ble_eq_true rfl⟩) (adr_app mT_adr rfl) (asc1 _ _) (ww' := mT g o ab be lm (flZ z) um ua hh ++ (aW g (o 6) 150 tx ++ (aW g (o 4) 45 ot ++ []))) (asc1 _ _) hP hD hS (fun H locs hP hD hS => ?_)
    refine lv_pop hx hb dX9_readsPlayer_14 rfl ?_
    refine lv_iconst (v := 0) hx hb dX9_readsPlayer_15 rfl ?_
    exact ret_rwz hx hb hr hlk rfl (by simp only [mdP, c1, b2i, eq_self, if_true, if_false, Bool.false_eq_true]) (kP_eq (by simp only [mdP, c1, eq_self, if_true, if_false, Bool.false_eq_true]) hP) hS dX9_readsPlayer_16
set_option maxHeartbeats 4000000 in
set_option maxRecDepth 100000 in
theorem kX9_readsNut (l : Launch) (g : gG) (o : Nat → Nat) (ab be : Int64) (lm : Nat) (z : M4) (um ua : Nat) (hh : Int64) (tx ot : Nat → Int32)  (hN : lm ≤ 150) (hra : z.1 ≤ lm) (hw : Wf ot) : Met l yX9_readsNut (.code yX9_readsNut cX9_readsNut 5 (some .boolean) :: gw) (rmN 4) (va_Pc [.ref (o 0)] (rwPre g (mT g o ab be lm z um ua hh ++ (aW g (o 6) 150 tx ++ (aW g (o 4) 45 ot ++ []))))) (rwQi g (mT g o ab be lm z um ua hh ++ (aW g (o 6) 150 tx ++ (aW g (o 4) 45 ot ++ []))) (mT g o ab be lm (mdN tx lm z ot).2.1 um ua hh ++ (aW g (o 6) 150 tx ++ (aW g (o 4) 45 (mdN tx lm z ot).2.2 ++ []))) (b2i (mdN tx lm z ot).1)) 0 0 (dm (mT g o ab be lm z um ua hh ++ (aW g (o 6) 150 tx ++ (aW g (o 4) 45 ot ++ [])))) := by
  refine met_start (by decide) (Nat.le_of_ble_eq_true rfl) ?_
  intro pp ee ss mm bl mt cd hC hpre ls hl
  obtain ⟨⟨hx, hb, hml, hown, hts⟩, hr, hlk, hnm⟩ := id hC
  have hl : lv_has ls 5 [(0, .ref (o 0))] := hl
  obtain ⟨hP, hK, hD⟩ := hpre
  have hS : va_S (dm (mT g o ab be lm z um ua hh ++ (aW g (o 6) 150 tx ++ (aW g (o 4) 45 ot ++ [])))) ss.heap ss.heap [] := va_S.rf
  have hD := vD_self hD
  refine lv_aload_n hx hb dX9_readsNut_0 rfl (lv_at hl 0 rfl) ?_
  refine kget hC.1 hK (kP_app.mp hP).1 0 rfl rfl in_9 5 (by decide) (gw_in m_965 rfl) rfl dX9_readsNut_1 ?_
  refine lv_iconst (v := 2) hx hb dX9_readsNut_4 rfl ?_
  refine kald (v := ot 2) hC.1 hK (kP_app.mp (kP_app.mp (kP_app.mp hP).2).2).1 0 rfl (show vp_in (nI 2) 45 from vp_in_nI (by omega) (by omega)) (congrArg ot (show cl 2 = 2 from by decide)) dX9_readsNut_5 ?_
  refine lv_bipush (v := 6) hx hb dX9_readsNut_6 rfl ?_
  refine lv_icmp_ne (tgt := 18) hx hb dX9_readsNut_8 (by decide) (fun c1 => ?_) (fun c1 => ?_)
  · skip
    refine lv_aload_n hx hb dX9_readsNut_18 rfl (lv_at hl 0 rfl) ?_
    refine lv_iconst (v := 0) hx hb dX9_readsNut_19 rfl ?_
    refine lv_aload_n hx hb dX9_readsNut_20 rfl (lv_at hl 0 rfl) ?_
    refine kget hC.1 hK (kP_app.mp hP).1 0 rfl rfl in_9 5 (by decide) (gw_in m_965 rfl) rfl dX9_readsNut_21 ?_
    refine lv_iconst (v := 1) hx hb dX9_readsNut_24 rfl ?_
    refine kald (v := ot 1) hC.1 hK (kP_app.mp (kP_app.mp (kP_app.mp hP).2).2).1 0 rfl (show vp_in (nI 1) 45 from vp_in_nI (by omega) (by omega)) (congrArg ot (show cl 1 = 1 from by decide)) dX9_readsNut_25 ?_
    refine lv_iconst (v := 1) hx hb dX9_readsNut_26 rfl ?_
    refine lv_isub hx hb dX9_readsNut_27 ?_
    refine rw_i (run_V (As := [.int (0), .int ((ot 1) - 1)]) (rest := []) hC.1 ckX9_number (kX9_number l g o ab be lm z um ua hh tx 0 ((ot 1) - 1) hN hra) (gw_in m_1107 rfl) (fb_rw _ _ _) (va_recv hK.1 (kP_app.mp hP).1 (q0 := 0) rfl rfl) (fun U hU hW => ⟨by rw [hU]; exact (kP_app.mpr ⟨(kP_app.mp hP).1, (kP_app.mpr ⟨(kP_app.mp (kP_app.mp hP).2).1, kP_nil⟩)⟩), kK_warm hW hK, vD_sub (sbA _ (sbA _ (sb0 _))) hD⟩) ⟨rfl, rfl, Nat.le_of_ble_eq_true rfl, Nat.le_of_ble_eq_true rfl⟩ rfl hl.1 rfl (Nat.le_of_ble_eq_true rfl) dX9_readsNut_28 ⟨Nat.le_of_ble_eq_true rfl, Nat.le_of_ble_eq_true rfl⟩) (adr_app mT_adr (adr_app rfl rfl)) (asc2 _ _ _) (ww' := mT g o ab be lm (nmZ tx lm 0 ((ot 1) - 1) z) um ua hh ++ (aW g (o 6) 150 tx ++ (aW g (o 4) 45 ot ++ []))) (asc2 _ _ _) hP hD hS (fun H locs hP hD hS => ?_)
    refine lv_istore_n (lv' := [(1, .int (nmX tx lm 0 ((ot 1) - 1) z)), (0, .ref (o 0))]) hx hb dX9_readsNut_31 rfl hl (by decide) rfl (fun ls hl => ?_)
    refine lv_iload_n hx hb dX9_readsNut_32 rfl (lv_at hl 0 rfl) ?_
    refine lv_iconst (v := -1) hx hb dX9_readsNut_33 rfl ?_
    refine lv_icmp_ne (tgt := 41) hx hb dX9_readsNut_34 (by decide) (fun c2 => ?_) (fun c2 => ?_)
    · skip
      have hbc2 := nm_yes c2
      have hP : kP g (mT g o ab be lm (nxZ tx lm z) um ua hh ++ (aW g (o 6) 150 tx ++ (aW g (o 4) 45 ot ++ []))) _ := kP_eq (by rw [show (nmZ tx lm 0 ((ot 1) - 1) z) = (nxZ tx lm z) from if_pos hbc2]) hP
      have hD : va_D _ (mT g o ab be lm (nxZ tx lm z) um ua hh ++ (aW g (o 6) 150 tx ++ (aW g (o 4) 45 ot ++ []))) := vD_eq (by rw [show (nmZ tx lm 0 ((ot 1) - 1) z) = (nxZ tx lm z) from if_pos hbc2]) hD
      have hl : lv_has ls 5 [(1, .int (nmV tx (nxZ tx lm z))), (0, .ref (o 0))] := by rw [show nmV tx (nxZ tx lm z) = nmX tx lm 0 ((ot 1) - 1) z from (if_pos hbc2).symm]; exact hl
      have hzc2 := nx_le (tx := tx) hra
      refine lv_aload_n hx hb dX9_readsNut_41 rfl (lv_at hl 1 rfl) ?_
      refine lv_iconst (v := 0) hx hb dX9_readsNut_42 rfl ?_
      refine lv_iconst (v := 5) hx hb dX9_readsNut_43 rfl ?_
      refine rw_i (run_V (As := [.int (0), .int (5)]) (rest := []) hC.1 ckX9_number (kX9_number l g o ab be lm (nxZ tx lm z) um ua hh tx 0 5 hN hzc2) (gw_in m_1107 rfl) (fb_rw _ _ _) (va_recv hK.1 (kP_app.mp hP).1 (q0 := 0) rfl rfl) (fun U hU hW => ⟨by rw [hU]; exact (kP_app.mpr ⟨(kP_app.mp hP).1, (kP_app.mpr ⟨(kP_app.mp (kP_app.mp hP).2).1, kP_nil⟩)⟩), kK_warm hW hK, vD_sub (sbA _ (sbA _ (sb0 _))) hD⟩) ⟨rfl, rfl, Nat.le_of_ble_eq_true rfl, Nat.le_of_ble_eq_true rfl⟩ rfl hl.1 rfl (Nat.le_of_ble_eq_true rfl) dX9_readsNut_44 ⟨Nat.le_of_ble_eq_true rfl, Nat.le_of_ble_eq_true rfl⟩) (adr_app mT_adr (adr_app rfl rfl)) (asc2 _ _ _) (ww' := mT g o ab be lm (nmZ tx lm 0 5 (nxZ tx lm z)) um ua hh ++ (aW g (o 6) 150 tx ++ (aW g (o 4) 45 ot ++ []))) (asc2 _ _ _) hP hD hS (fun H locs hP hD hS => ?_)
      refine lv_istore_n (lv' := [(2, .int (nmX tx lm 0 5 (nxZ tx lm z))), (1, .int (nmV tx (nxZ tx lm z))), (0, .ref (o 0))]) hx hb dX9_readsNut_47 rfl hl (by decide) rfl (fun ls hl => ?_)
      refine lv_iload_n hx hb dX9_readsNut_48 rfl (lv_at hl 0 rfl) ?_
      refine lv_iconst (v := -1) hx hb dX9_readsNut_49 rfl ?_
      refine lv_icmp_ne (tgt := 57) hx hb dX9_readsNut_50 (by decide) (fun c3 => ?_) (fun c3 => ?_)
      · skip
        have hbc3 := nm_yes c3
        have hP : kP g (mT g o ab be lm (nxZ tx lm (nxZ tx lm z)) um ua hh ++ (aW g (o 6) 150 tx ++ (aW g (o 4) 45 ot ++ []))) _ := kP_eq (by rw [show (nmZ tx lm 0 5 (nxZ tx lm z)) = (nxZ tx lm (nxZ tx lm z)) from if_pos hbc3]) hP
        have hD : va_D _ (mT g o ab be lm (nxZ tx lm (nxZ tx lm z)) um ua hh ++ (aW g (o 6) 150 tx ++ (aW g (o 4) 45 ot ++ []))) := vD_eq (by rw [show (nmZ tx lm 0 5 (nxZ tx lm z)) = (nxZ tx lm (nxZ tx lm z)) from if_pos hbc3]) hD
        have hl : lv_has ls 5 [(2, .int (nmV tx (nxZ tx lm (nxZ tx lm z)))), (1, .int (nmV tx (nxZ tx lm z))), (0, .ref (o 0))] := by rw [show nmV tx (nxZ tx lm (nxZ tx lm z)) = nmX tx lm 0 5 (nxZ tx lm z) from (if_pos hbc3).symm]; exact hl
        have hzc3 := nx_le (tx := tx) hzc2
        refine lv_aload_n hx hb dX9_readsNut_57 rfl (lv_at hl 2 rfl) ?_
        refine lv_iconst (v := 0) hx hb dX9_readsNut_58 rfl ?_
        refine lv_bipush (v := 9) hx hb dX9_readsNut_59 rfl ?_
        refine rw_i (run_V (As := [.int (0), .int (9)]) (rest := []) hC.1 ckX9_number (kX9_number l g o ab be lm (nxZ tx lm (nxZ tx lm z)) um ua hh tx 0 9 hN hzc3) (gw_in m_1107 rfl) (fb_rw _ _ _) (va_recv hK.1 (kP_app.mp hP).1 (q0 := 0) rfl rfl) (fun U hU hW => ⟨by rw [hU]; exact (kP_app.mpr ⟨(kP_app.mp hP).1, (kP_app.mpr ⟨(kP_app.mp (kP_app.mp hP).2).1, kP_nil⟩)⟩), kK_warm hW hK, vD_sub (sbA _ (sbA _ (sb0 _))) hD⟩) ⟨rfl, rfl, Nat.le_of_ble_eq_true rfl, Nat.le_of_ble_eq_true rfl⟩ rfl hl.1 rfl (Nat.le_of_ble_eq_true rfl) dX9_readsNut_61 ⟨Nat.le_of_ble_eq_true rfl, Nat.le_of_ble_eq_true rfl⟩) (adr_app mT_adr (adr_app rfl rfl)) (asc2 _ _ _) (ww' := mT g o ab be lm (nmZ tx lm 0 9 (nxZ tx lm (nxZ tx lm z))) um ua hh ++ (aW g (o 6) 150 tx ++ (aW g (o 4) 45 ot ++ []))) (asc2 _ _ _) hP hD hS (fun H locs hP hD hS => ?_)
        refine lv_istore_n (lv' := [(3, .int (nmX tx lm 0 9 (nxZ tx lm (nxZ tx lm z)))), (2, .int (nmV tx (nxZ tx lm (nxZ tx lm z)))), (1, .int (nmV tx (nxZ tx lm z))), (0, .ref (o 0))]) hx hb dX9_readsNut_64 rfl hl (by decide) rfl (fun ls hl => ?_)
        refine lv_iload_n hx hb dX9_readsNut_65 rfl (lv_at hl 0 rfl) ?_
        refine lv_iconst (v := -1) hx hb dX9_readsNut_66 rfl ?_
        refine lv_icmp_ne (tgt := 74) hx hb dX9_readsNut_67 (by decide) (fun c4 => ?_) (fun c4 => ?_)
        · skip
          have hbc4 := nm_yes c4
          have hP : kP g (mT g o ab be lm (nxZ tx lm (nxZ tx lm (nxZ tx lm z))) um ua hh ++ (aW g (o 6) 150 tx ++ (aW g (o 4) 45 ot ++ []))) _ := kP_eq (by rw [show (nmZ tx lm 0 9 (nxZ tx lm (nxZ tx lm z))) = (nxZ tx lm (nxZ tx lm (nxZ tx lm z))) from if_pos hbc4]) hP
          have hD : va_D _ (mT g o ab be lm (nxZ tx lm (nxZ tx lm (nxZ tx lm z))) um ua hh ++ (aW g (o 6) 150 tx ++ (aW g (o 4) 45 ot ++ []))) := vD_eq (by rw [show (nmZ tx lm 0 9 (nxZ tx lm (nxZ tx lm z))) = (nxZ tx lm (nxZ tx lm (nxZ tx lm z))) from if_pos hbc4]) hD
          have hl : lv_has ls 5 [(3, .int (nmV tx (nxZ tx lm (nxZ tx lm (nxZ tx lm z))))), (2, .int (nmV tx (nxZ tx lm (nxZ tx lm z)))), (1, .int (nmV tx (nxZ tx lm z))), (0, .ref (o 0))] := by rw [show nmV tx (nxZ tx lm (nxZ tx lm (nxZ tx lm z))) = nmX tx lm 0 9 (nxZ tx lm (nxZ tx lm z)) from (if_pos hbc4).symm]; exact hl
          have hzc4 := nx_le (tx := tx) hzc3
          refine lv_aload_n hx hb dX9_readsNut_74 rfl (lv_at hl 3 rfl) ?_
          refine lv_iconst (v := 1) hx hb dX9_readsNut_75 rfl ?_
          refine lv_bipush (v := 9) hx hb dX9_readsNut_76 rfl ?_
          refine rw_i (run_V (As := [.int (1), .int (9)]) (rest := []) hC.1 ckX9_number (kX9_number l g o ab be lm (nxZ tx lm (nxZ tx lm (nxZ tx lm z))) um ua hh tx 1 9 hN hzc4) (gw_in m_1107 rfl) (fb_rw _ _ _) (va_recv hK.1 (kP_app.mp hP).1 (q0 := 0) rfl rfl) (fun U hU hW => ⟨by rw [hU]; exact (kP_app.mpr ⟨(kP_app.mp hP).1, (kP_app.mpr ⟨(kP_app.mp (kP_app.mp hP).2).1, kP_nil⟩)⟩), kK_warm hW hK, vD_sub (sbA _ (sbA _ (sb0 _))) hD⟩) ⟨rfl, rfl, Nat.le_of_ble_eq_true rfl, Nat.le_of_ble_eq_true rfl⟩ rfl hl.1 rfl (Nat.le_of_ble_eq_true rfl) dX9_readsNut_78 ⟨Nat.le_of_ble_eq_true rfl, Nat.le_of_ble_eq_true rfl⟩) (adr_app mT_adr (adr_app rfl rfl)) (asc2 _ _ _) (ww' := mT g o ab be lm (nmZ tx lm 1 9 (nxZ tx lm (nxZ tx lm (nxZ tx lm z)))) um ua hh ++ (aW g (o 6) 150 tx ++ (aW g (o 4) 45 ot ++ []))) (asc2 _ _ _) hP hD hS (fun H locs hP hD hS => ?_)
          refine lv_istore (lv' := [(4, .int (nmX tx lm 1 9 (nxZ tx lm (nxZ tx lm (nxZ tx lm z))))), (3, .int (nmV tx (nxZ tx lm (nxZ tx lm (nxZ tx lm z))))), (2, .int (nmV tx (nxZ tx lm (nxZ tx lm z)))), (1, .int (nmV tx (nxZ tx lm z))), (0, .ref (o 0))]) hx hb dX9_readsNut_81 hl (by decide) rfl (fun ls hl => ?_)
          refine lv_iload hx hb dX9_readsNut_83 (lv_at hl 0 rfl) ?_
          refine lv_iconst (v := -1) hx hb dX9_readsNut_85 rfl ?_
          refine lv_icmp_eq (tgt := 96) hx hb dX9_readsNut_86 (by decide) (fun c5 => ?_) (fun c5 => ?_)
          · skip
            have hbc5 := nm_no (by decide) c5
            have hP : kP g (mT g o ab be lm (flZ (nxZ tx lm (nxZ tx lm (nxZ tx lm (nxZ tx lm z))))) um ua hh ++ (aW g (o 6) 150 tx ++ (aW g (o 4) 45 ot ++ []))) _ := kP_eq (by rw [show (nmZ tx lm 1 9 (nxZ tx lm (nxZ tx lm (nxZ tx lm z)))) = (flZ (nxZ tx lm (nxZ tx lm (nxZ tx lm (nxZ tx lm z))))) from if_neg (by rw [hbc5]; decide)]) hP
            have hD : va_D _ (mT g o ab be lm (flZ (nxZ tx lm (nxZ tx lm (nxZ tx lm (nxZ tx lm z))))) um ua hh ++ (aW g (o 6) 150 tx ++ (aW g (o 4) 45 ot ++ []))) := vD_eq (by rw [show (nmZ tx lm 1 9 (nxZ tx lm (nxZ tx lm (nxZ tx lm z)))) = (flZ (nxZ tx lm (nxZ tx lm (nxZ tx lm (nxZ tx lm z))))) from if_neg (by rw [hbc5]; decide)]) hD
            refine lv_iconst (v := 0) hx hb dX9_readsNut_96 rfl ?_
            exact ret_rwz hx hb hr hlk rfl (by simp only [mdN, c1, hbc2, hbc3, hbc4, hbc5, b2i, eq_self, if_true, if_false, Bool.false_eq_true]) (kP_eq (by simp only [mdN, c1, hbc2, hbc3, hbc4, hbc5, eq_self, if_true, if_false, Bool.false_eq_true]) hP) hS dX9_readsNut_97
          · skip
            have hbc5 := nm_yes c5
            have hP : kP g (mT g o ab be lm (nxZ tx lm (nxZ tx lm (nxZ tx lm (nxZ tx lm z)))) um ua hh ++ (aW g (o 6) 150 tx ++ (aW g (o 4) 45 ot ++ []))) _ := kP_eq (by rw [show (nmZ tx lm 1 9 (nxZ tx lm (nxZ tx lm (nxZ tx lm z)))) = (nxZ tx lm (nxZ tx lm (nxZ tx lm (nxZ tx lm z)))) from if_pos hbc5]) hP
            have hD : va_D _ (mT g o ab be lm (nxZ tx lm (nxZ tx lm (nxZ tx lm (nxZ tx lm z)))) um ua hh ++ (aW g (o 6) 150 tx ++ (aW g (o 4) 45 ot ++ []))) := vD_eq (by rw [show (nmZ tx lm 1 9 (nxZ tx lm (nxZ tx lm (nxZ tx lm z)))) = (nxZ tx lm (nxZ tx lm (nxZ tx lm (nxZ tx lm z)))) from if_pos hbc5]) hD
            have hl : lv_has ls 5 [(4, .int (nmV tx (nxZ tx lm (nxZ tx lm (nxZ tx lm (nxZ tx lm z)))))), (3, .int (nmV tx (nxZ tx lm (nxZ tx lm (nxZ tx lm z))))), (2, .int (nmV tx (nxZ tx lm (nxZ tx lm z)))), (1, .int (nmV tx (nxZ tx lm z))), (0, .ref (o 0))] := by rw [show nmV tx (nxZ tx lm (nxZ tx lm (nxZ tx lm (nxZ tx lm z)))) = nmX tx lm 1 9 (nxZ tx lm (nxZ tx lm (nxZ tx lm z))) from (if_pos hbc5).symm]; exact hl
            have hzc5 := nx_le (tx := tx) hzc4
            refine lv_aload_n hx hb dX9_readsNut_89 rfl (lv_at hl 4 rfl) ?_
            refine rw_i (run_V (As := []) (rest := []) hC.1 ckX9_ends (kX9_ends l g o ab be lm (nxZ tx lm (nxZ tx lm (nxZ tx lm (nxZ tx lm z)))) um ua hh tx hN hzc5) (gw_in m_1115 rfl) (fb_rw _ _ _) (va_recv hK.1 (kP_app.mp hP).1 (q0 := 0) rfl rfl) (fun U hU hW => ⟨by rw [hU]; exact (kP_app.mpr ⟨(kP_app.mp hP).1, (kP_app.mpr ⟨(kP_app.mp (kP_app.mp hP).2).1, kP_nil⟩)⟩), kK_warm hW hK, vD_sub (sbA _ (sbA _ (sb0 _))) hD⟩) ⟨rfl, rfl, Nat.le_of_ble_eq_true rfl, Nat.le_of_ble_eq_true rfl⟩ rfl hl.1 rfl (Nat.le_of_ble_eq_true rfl) dX9_readsNut_90 ⟨Nat.le_of_ble_eq_true rfl, Nat.le_of_ble_eq_true rfl⟩) (adr_app mT_adr (adr_app rfl rfl)) (asc2 _ _ _) (ww' := mT g o ab be lm (enZ tx lm (nxZ tx lm (nxZ tx lm (nxZ tx lm (nxZ tx lm z))))) um ua hh ++ (aW g (o 6) 150 tx ++ (aW g (o 4) 45 ot ++ []))) (asc2 _ _ _) hP hD hS (fun H locs hP hD hS => ?_)
            refine lv_if_ne (tgt := 98) hx hb dX9_readsNut_93 (by decide) (fun c6 => ?_) (fun c6 => ?_)
            · skip
              have c6 := b2i_1 c6
              have hP : kP g (mT g o ab be lm (nxZ tx lm (nxZ tx lm (nxZ tx lm (nxZ tx lm (nxZ tx lm z))))) um ua hh ++ (aW g (o 6) 150 tx ++ (aW g (o 4) 45 ot ++ []))) _ := kP_eq (by rw [show (enZ tx lm (nxZ tx lm (nxZ tx lm (nxZ tx lm (nxZ tx lm z))))) = (nxZ tx lm (nxZ tx lm (nxZ tx lm (nxZ tx lm (nxZ tx lm z))))) from if_pos c6]) hP
              have hD : va_D _ (mT g o ab be lm (nxZ tx lm (nxZ tx lm (nxZ tx lm (nxZ tx lm (nxZ tx lm z))))) um ua hh ++ (aW g (o 6) 150 tx ++ (aW g (o 4) 45 ot ++ []))) := vD_eq (by rw [show (enZ tx lm (nxZ tx lm (nxZ tx lm (nxZ tx lm (nxZ tx lm z))))) = (nxZ tx lm (nxZ tx lm (nxZ tx lm (nxZ tx lm (nxZ tx lm z))))) from if_pos c6]) hD
              refine lv_aload_n hx hb dX9_readsNut_98 rfl (lv_at hl 4 rfl) ?_
              refine kget hC.1 hK (kP_app.mp hP).1 0 rfl rfl in_9 5 (by decide) (gw_in m_965 rfl) rfl dX9_readsNut_99 ?_
              refine lv_iload_n hx hb dX9_readsNut_102 rfl (lv_at hl 3 rfl) ?_
              refine lv_iload_n hx hb dX9_readsNut_103 rfl (lv_at hl 2 rfl) ?_
              refine lv_iload_n hx hb dX9_readsNut_104 rfl (lv_at hl 1 rfl) ?_
              refine lv_iload hx hb dX9_readsNut_105 (lv_at hl 0 rfl) ?_
              have hP : kP g (aW g (o 4) 45 ot ++ (mT g o ab be lm (nxZ tx lm (nxZ tx lm (nxZ tx lm (nxZ tx lm (nxZ tx lm z))))) um ua hh ++ (aW g (o 6) 150 tx ++ []))) _ := kP_perm ((pmA _ (pm_swap _ _ _)).trans (pm_swap _ _ _)) hP
              have hD : va_D _ (aW g (o 4) 45 ot ++ (mT g o ab be lm (nxZ tx lm (nxZ tx lm (nxZ tx lm (nxZ tx lm (nxZ tx lm z))))) um ua hh ++ (aW g (o 6) 150 tx ++ []))) := vD_perm ((pmA _ (pm_swap _ _ _)).trans (pm_swap _ _ _)) hD
              refine rw_i (run_S (As := [.ref (o 4), .int (nmV tx (nxZ tx lm z)), .int (nmV tx (nxZ tx lm (nxZ tx lm z))), .int (nmV tx (nxZ tx lm (nxZ tx lm (nxZ tx lm z)))), .int (nmV tx (nxZ tx lm (nxZ tx lm (nxZ tx lm (nxZ tx lm z)))))]) (rest := []) hC.1 ckX9_comes (kX9_comes l g (o 4) ot (nmV tx (nxZ tx lm z)) (nmV tx (nxZ tx lm (nxZ tx lm z))) (nmV tx (nxZ tx lm (nxZ tx lm (nxZ tx lm z)))) (nmV tx (nxZ tx lm (nxZ tx lm (nxZ tx lm (nxZ tx lm z))))) (nu_bd6 hw c1)) (gw_in m_1075 rfl) (fb_rw _ _ _) (fun U hU hW => ⟨by rw [hU]; exact (kP_app.mpr ⟨(kP_app.mp hP).1, kP_nil⟩), kK_warm hW hK, vD_sub (sbA _ (sb0 _)) hD⟩) ⟨rfl, rfl, Nat.le_of_ble_eq_true rfl, Nat.le_of_ble_eq_true rfl⟩ rfl hl.1 rfl (Nat.le_of_ble_eq_true rfl) dX9_readsNut_107 ⟨Nat.le_of_ble_eq_true rfl, Nat.le_of_ble_eq_true rfl⟩) (adr_app aW_adr rfl) (asc1 _ _) (ww' := aW g (o 4) 45 (adN ot (nmV tx (nxZ tx lm z)) (nmV tx (nxZ tx lm (nxZ tx lm z))) (nmV tx (nxZ tx lm (nxZ tx lm (nxZ tx lm z)))) (nmV tx (nxZ tx lm (nxZ tx lm (nxZ tx lm (nxZ tx lm z)))))) ++ (mT g o ab be lm (nxZ tx lm (nxZ tx lm (nxZ tx lm (nxZ tx lm (nxZ tx lm z))))) um ua hh ++ (aW g (o 6) 150 tx ++ []))) (asc1 _ _) hP hD hS (fun H locs hP hD hS => ?_)
              refine lv_pop hx hb dX9_readsNut_110 rfl ?_
              refine lv_iconst (v := 1) hx hb dX9_readsNut_111 rfl ?_
              have hP : kP g (mT g o ab be lm (nxZ tx lm (nxZ tx lm (nxZ tx lm (nxZ tx lm (nxZ tx lm z))))) um ua hh ++ (aW g (o 6) 150 tx ++ (aW g (o 4) 45 (adN ot (nmV tx (nxZ tx lm z)) (nmV tx (nxZ tx lm (nxZ tx lm z))) (nmV tx (nxZ tx lm (nxZ tx lm (nxZ tx lm z)))) (nmV tx (nxZ tx lm (nxZ tx lm (nxZ tx lm (nxZ tx lm z)))))) ++ []))) _ := kP_perm ((pm_swap _ _ _).trans (pmA _ (pm_swap _ _ _))) hP
              have hD : va_D _ (mT g o ab be lm (nxZ tx lm (nxZ tx lm (nxZ tx lm (nxZ tx lm (nxZ tx lm z))))) um ua hh ++ (aW g (o 6) 150 tx ++ (aW g (o 4) 45 (adN ot (nmV tx (nxZ tx lm z)) (nmV tx (nxZ tx lm (nxZ tx lm z))) (nmV tx (nxZ tx lm (nxZ tx lm (nxZ tx lm z)))) (nmV tx (nxZ tx lm (nxZ tx lm (nxZ tx lm (nxZ tx lm z)))))) ++ []))) := vD_perm ((pm_swap _ _ _).trans (pmA _ (pm_swap _ _ _))) hD
              exact ret_rwz hx hb hr hlk rfl (by simp only [mdN, c1, hbc2, hbc3, hbc4, hbc5, c6, b2i, eq_self, if_true, if_false, Bool.false_eq_true]) (kP_eq (by simp only [mdN, c1, hbc2, hbc3, hbc4, hbc5, c6, eq_self, if_true, if_false, Bool.false_eq_true]) hP) hS dX9_readsNut_112
            · skip
              have c6 := b2i_0 c6
              have hP : kP g (mT g o ab be lm (flZ (nxZ tx lm (nxZ tx lm (nxZ tx lm (nxZ tx lm (nxZ tx lm z)))))) um ua hh ++ (aW g (o 6) 150 tx ++ (aW g (o 4) 45 ot ++ []))) _ := kP_eq (by rw [show (enZ tx lm (nxZ tx lm (nxZ tx lm (nxZ tx lm (nxZ tx lm z))))) = (flZ (nxZ tx lm (nxZ tx lm (nxZ tx lm (nxZ tx lm (nxZ tx lm z)))))) from if_neg (by rw [c6]; decide)]) hP
              have hD : va_D _ (mT g o ab be lm (flZ (nxZ tx lm (nxZ tx lm (nxZ tx lm (nxZ tx lm (nxZ tx lm z)))))) um ua hh ++ (aW g (o 6) 150 tx ++ (aW g (o 4) 45 ot ++ []))) := vD_eq (by rw [show (enZ tx lm (nxZ tx lm (nxZ tx lm (nxZ tx lm (nxZ tx lm z))))) = (flZ (nxZ tx lm (nxZ tx lm (nxZ tx lm (nxZ tx lm (nxZ tx lm z)))))) from if_neg (by rw [c6]; decide)]) hD
              refine lv_iconst (v := 0) hx hb dX9_readsNut_96 rfl ?_
              exact ret_rwz hx hb hr hlk rfl (by simp only [mdN, c1, hbc2, hbc3, hbc4, hbc5, c6, b2i, eq_self, if_true, if_false, Bool.false_eq_true]) (kP_eq (by simp only [mdN, c1, hbc2, hbc3, hbc4, hbc5, c6, eq_self, if_true, if_false, Bool.false_eq_true]) hP) hS dX9_readsNut_97
        · skip
          have hbc4 := nm_no (by decide) c4
          have hP : kP g (mT g o ab be lm (flZ (nxZ tx lm (nxZ tx lm (nxZ tx lm z)))) um ua hh ++ (aW g (o 6) 150 tx ++ (aW g (o 4) 45 ot ++ []))) _ := kP_eq (by rw [show (nmZ tx lm 0 9 (nxZ tx lm (nxZ tx lm z))) = (flZ (nxZ tx lm (nxZ tx lm (nxZ tx lm z)))) from if_neg (by rw [hbc4]; decide)]) hP
          have hD : va_D _ (mT g o ab be lm (flZ (nxZ tx lm (nxZ tx lm (nxZ tx lm z)))) um ua hh ++ (aW g (o 6) 150 tx ++ (aW g (o 4) 45 ot ++ []))) := vD_eq (by rw [show (nmZ tx lm 0 9 (nxZ tx lm (nxZ tx lm z))) = (flZ (nxZ tx lm (nxZ tx lm (nxZ tx lm z)))) from if_neg (by rw [hbc4]; decide)]) hD
          refine lv_iconst (v := -1) hx hb dX9_readsNut_70 rfl ?_
          refine lv_goto (tgt := 81) hx hb dX9_readsNut_71 (by decide) ?_
          refine lv_istore (lv' := [(4, .int (-1)), (3, .int (nmX tx lm 0 9 (nxZ tx lm (nxZ tx lm z)))), (2, .int (nmV tx (nxZ tx lm (nxZ tx lm z)))), (1, .int (nmV tx (nxZ tx lm z))), (0, .ref (o 0))]) hx hb dX9_readsNut_81 hl (by decide) rfl (fun ls hl => ?_)
          refine lv_iload hx hb dX9_readsNut_83 (lv_at hl 0 rfl) ?_
          refine lv_iconst (v := -1) hx hb dX9_readsNut_85 rfl ?_
          refine lv_icmp_eq (tgt := 96) hx hb dX9_readsNut_86 (by decide) (fun c7 => ?_) (fun c7 => ?_)
          · skip
            refine lv_iconst (v := 0) hx hb dX9_readsNut_96 rfl ?_
            exact ret_rwz hx hb hr hlk rfl (by simp only [mdN, c1, hbc2, hbc3, hbc4, b2i, eq_self, if_true, if_false, Bool.false_eq_true]) (kP_eq (by simp only [mdN, c1, hbc2, hbc3, hbc4, eq_self, if_true, if_false, Bool.false_eq_true]) hP) hS dX9_readsNut_97
          · skip
            exact absurd c7 (by decide)
      · skip
        have hbc3 := nm_no (by decide) c3
        have hP : kP g (mT g o ab be lm (flZ (nxZ tx lm (nxZ tx lm z))) um ua hh ++ (aW g (o 6) 150 tx ++ (aW g (o 4) 45 ot ++ []))) _ := kP_eq (by rw [show (nmZ tx lm 0 5 (nxZ tx lm z)) = (flZ (nxZ tx lm (nxZ tx lm z))) from if_neg (by rw [hbc3]; decide)]) hP
        have hD : va_D _ (mT g o ab be lm (flZ (nxZ tx lm (nxZ tx lm z))) um ua hh ++ (aW g (o 6) 150 tx ++ (aW g (o 4) 45 ot ++ []))) := vD_eq (by rw [show (nmZ tx lm 0 5 (nxZ tx lm z)) = (flZ (nxZ tx lm (nxZ tx lm z))) from if_neg (by rw [hbc3]; decide)]) hD
        refine lv_iconst (v := -1) hx hb dX9_readsNut_53 rfl ?_
        refine lv_goto (tgt := 64) hx hb dX9_readsNut_54 (by decide) ?_
        refine lv_istore_n (lv' := [(3, .int (-1)), (2, .int (nmX tx lm 0 5 (nxZ tx lm z))), (1, .int (nmV tx (nxZ tx lm z))), (0, .ref (o 0))]) hx hb dX9_readsNut_64 rfl hl (by decide) rfl (fun ls hl => ?_)
        refine lv_iload_n hx hb dX9_readsNut_65 rfl (lv_at hl 0 rfl) ?_
        refine lv_iconst (v := -1) hx hb dX9_readsNut_66 rfl ?_
        refine lv_icmp_ne (tgt := 74) hx hb dX9_readsNut_67 (by decide) (fun c8 => ?_) (fun c8 => ?_)
        · skip
          exact absurd c8 (by decide)
        · skip
          refine lv_iconst (v := -1) hx hb dX9_readsNut_70 rfl ?_
          refine lv_goto (tgt := 81) hx hb dX9_readsNut_71 (by decide) ?_
          refine lv_istore (lv' := [(4, .int (-1)), (3, .int (-1)), (2, .int (nmX tx lm 0 5 (nxZ tx lm z))), (1, .int (nmV tx (nxZ tx lm z))), (0, .ref (o 0))]) hx hb dX9_readsNut_81 hl (by decide) rfl (fun ls hl => ?_)
          refine lv_iload hx hb dX9_readsNut_83 (lv_at hl 0 rfl) ?_
          refine lv_iconst (v := -1) hx hb dX9_readsNut_85 rfl ?_
          refine lv_icmp_eq (tgt := 96) hx hb dX9_readsNut_86 (by decide) (fun c9 => ?_) (fun c9 => ?_)
          · skip
            refine lv_iconst (v := 0) hx hb dX9_readsNut_96 rfl ?_
            exact ret_rwz hx hb hr hlk rfl (by simp only [mdN, c1, hbc2, hbc3, b2i, eq_self, if_true, if_false, Bool.false_eq_true]) (kP_eq (by simp only [mdN, c1, hbc2, hbc3, eq_self, if_true, if_false, Bool.false_eq_true]) hP) hS dX9_readsNut_97
          · skip
            exact absurd c9 (by decide)
    · skip
      have hbc2 := nm_no (by decide) c2
      have hP : kP g (mT g o ab be lm (flZ (nxZ tx lm z)) um ua hh ++ (aW g (o 6) 150 tx ++ (aW g (o 4) 45 ot ++ []))) _ := kP_eq (by rw [show (nmZ tx lm 0 ((ot 1) - 1) z) = (flZ (nxZ tx lm z)) from if_neg (by rw [hbc2]; decide)]) hP
      have hD : va_D _ (mT g o ab be lm (flZ (nxZ tx lm z)) um ua hh ++ (aW g (o 6) 150 tx ++ (aW g (o 4) 45 ot ++ []))) := vD_eq (by rw [show (nmZ tx lm 0 ((ot 1) - 1) z) = (flZ (nxZ tx lm z)) from if_neg (by rw [hbc2]; decide)]) hD
      refine lv_iconst (v := -1) hx hb dX9_readsNut_37 rfl ?_
      refine lv_goto (tgt := 47) hx hb dX9_readsNut_38 (by decide) ?_
      refine lv_istore_n (lv' := [(2, .int (-1)), (1, .int (nmX tx lm 0 ((ot 1) - 1) z)), (0, .ref (o 0))]) hx hb dX9_readsNut_47 rfl hl (by decide) rfl (fun ls hl => ?_)
      refine lv_iload_n hx hb dX9_readsNut_48 rfl (lv_at hl 0 rfl) ?_
      refine lv_iconst (v := -1) hx hb dX9_readsNut_49 rfl ?_
      refine lv_icmp_ne (tgt := 57) hx hb dX9_readsNut_50 (by decide) (fun c10 => ?_) (fun c10 => ?_)
      · skip
        exact absurd c10 (by decide)
      · skip
        refine lv_iconst (v := -1) hx hb dX9_readsNut_53 rfl ?_
        refine lv_goto (tgt := 64) hx hb dX9_readsNut_54 (by decide) ?_
        refine lv_istore_n (lv' := [(3, .int (-1)), (2, .int (-1)), (1, .int (nmX tx lm 0 ((ot 1) - 1) z)), (0, .ref (o 0))]) hx hb dX9_readsNut_64 rfl hl (by decide) rfl (fun ls hl => ?_)
        refine lv_iload_n hx hb dX9_readsNut_65 rfl (lv_at hl 0 rfl) ?_
        refine lv_iconst (v := -1) hx hb dX9_readsNut_66 rfl ?_
        refine lv_icmp_ne (tgt := 74) hx hb dX9_readsNut_67 (by decide) (fun c11 => ?_) (fun c11 => ?_)
        · skip
          exact absurd c11 (by decide)
        · skip
          refine lv_iconst (v := -1) hx hb dX9_readsNut_70 rfl ?_
          refine lv_goto (tgt := 81) hx hb dX9_readsNut_71 (by decide) ?_
          refine lv_istore (lv' := [(4, .int (-1)), (3, .int (-1)), (2, .int (-1)), (1, .int (nmX tx lm 0 ((ot 1) - 1) z)), (0, .ref (o 0))]) hx hb dX9_readsNut_81 hl (by decide) rfl (fun ls hl => ?_)
          refine lv_iload hx hb dX9_readsNut_83 (lv_at hl 0 rfl) ?_
          refine lv_iconst (v := -1) hx hb dX9_readsNut_85 rfl ?_
          refine lv_icmp_eq (tgt := 96) hx hb dX9_readsNut_86 (by decide) (fun c12 => ?_) (fun c12 => ?_)
          · skip
            refine lv_iconst (v := 0) hx hb dX9_readsNut_96 rfl ?_
            exact ret_rwz hx hb hr hlk rfl (by simp only [mdN, c1, hbc2, b2i, eq_self, if_true, if_false, Bool.false_eq_true]) (kP_eq (by simp only [mdN, c1, hbc2, eq_self, if_true, if_false, Bool.false_eq_true]) hP) hS dX9_readsNut_97
          · skip
            exact absurd c12 (by decide)
  · skip
    refine lv_aload_n hx hb dX9_readsNut_11 rfl (lv_at hl 0 rfl) ?_
    refine rw_i (run_V (As := []) (rest := []) hC.1 ckX9_fails (kX9_fails l g o ab be lm z um ua hh) (gw_in m_1111 rfl) (fb_rw _ _ _) (va_recv hK.1 (kP_app.mp hP).1 (q0 := 0) rfl rfl) (fun U hU hW => ⟨by rw [hU]; exact (kP_app.mpr ⟨(kP_app.mp hP).1, kP_nil⟩), kK_warm hW hK, vD_sub (sbA _ (sb0 _)) hD⟩) ⟨rfl, rfl, Nat.le_of_ble_eq_true rfl, Nat.le_of_ble_eq_true rfl⟩ rfl hl.1 rfl (Nat.le_of_ble_eq_true rfl) dX9_readsNut_12 ⟨Nat.le_of_ble_eq_true rfl, Nat.le_of_ble_eq_true rfl⟩) (adr_app mT_adr rfl) (asc1 _ _) (ww' := mT g o ab be lm (flZ z) um ua hh ++ (aW g (o 6) 150 tx ++ (aW g (o 4) 45 ot ++ []))) (asc1 _ _) hP hD hS (fun H locs hP hD hS => ?_)
    refine lv_pop hx hb dX9_readsNut_15 rfl ?_
    refine lv_iconst (v := 0) hx hb dX9_readsNut_16 rfl ?_
    exact ret_rwz hx hb hr hlk rfl (by simp only [mdN, c1, b2i, eq_self, if_true, if_false, Bool.false_eq_true]) (kP_eq (by simp only [mdN, c1, eq_self, if_true, if_false, Bool.false_eq_true]) hP) hS dX9_readsNut_17
set_option maxHeartbeats 4000000 in
set_option maxRecDepth 100000 in
theorem kX9_readsStrike (l : Launch) (g : gG) (o : Nat → Nat) (ab be : Int64) (lm : Nat) (z : M4) (um ua : Nat) (hh : Int64) (tx ot : Nat → Int32)  (hN : lm ≤ 150) (hra : z.1 ≤ lm) (hw : Wf ot) : Met l yX9_readsStrike (.code yX9_readsStrike cX9_readsStrike 3 (some .boolean) :: gw) (rmN 4) (va_Pc [.ref (o 0)] (rwPre g (mT g o ab be lm z um ua hh ++ (aW g (o 6) 150 tx ++ (aW g (o 4) 45 ot ++ []))))) (rwQi g (mT g o ab be lm z um ua hh ++ (aW g (o 6) 150 tx ++ (aW g (o 4) 45 ot ++ []))) (mT g o ab be lm (mdS tx lm z ot).2.1 um ua hh ++ (aW g (o 6) 150 tx ++ (aW g (o 4) 45 (mdS tx lm z ot).2.2 ++ []))) (b2i (mdS tx lm z ot).1)) 0 0 (dm (mT g o ab be lm z um ua hh ++ (aW g (o 6) 150 tx ++ (aW g (o 4) 45 ot ++ [])))) := by
  refine met_start (by decide) (Nat.le_of_ble_eq_true rfl) ?_
  intro pp ee ss mm bl mt cd hC hpre ls hl
  obtain ⟨⟨hx, hb, hml, hown, hts⟩, hr, hlk, hnm⟩ := id hC
  have hl : lv_has ls 3 [(0, .ref (o 0))] := hl
  obtain ⟨hP, hK, hD⟩ := hpre
  have hS : va_S (dm (mT g o ab be lm z um ua hh ++ (aW g (o 6) 150 tx ++ (aW g (o 4) 45 ot ++ [])))) ss.heap ss.heap [] := va_S.rf
  have hD := vD_self hD
  refine lv_aload_n hx hb dX9_readsStrike_0 rfl (lv_at hl 0 rfl) ?_
  refine lv_iconst (v := 0) hx hb dX9_readsStrike_1 rfl ?_
  refine lv_aload_n hx hb dX9_readsStrike_2 rfl (lv_at hl 0 rfl) ?_
  refine kget hC.1 hK (kP_app.mp hP).1 0 rfl rfl in_9 5 (by decide) (gw_in m_965 rfl) rfl dX9_readsStrike_3 ?_
  refine lv_iconst (v := 2) hx hb dX9_readsStrike_6 rfl ?_
  refine kald (v := ot 2) hC.1 hK (kP_app.mp (kP_app.mp (kP_app.mp hP).2).2).1 0 rfl (show vp_in (nI 2) 45 from vp_in_nI (by omega) (by omega)) (congrArg ot (show cl 2 = 2 from by decide)) dX9_readsStrike_7 ?_
  refine lv_iconst (v := 1) hx hb dX9_readsStrike_8 rfl ?_
  refine lv_isub hx hb dX9_readsStrike_9 ?_
  refine rw_i (run_V (As := [.int (0), .int ((ot 2) - 1)]) (rest := []) hC.1 ckX9_number (kX9_number l g o ab be lm z um ua hh tx 0 ((ot 2) - 1) hN hra) (gw_in m_1107 rfl) (fb_rw _ _ _) (va_recv hK.1 (kP_app.mp hP).1 (q0 := 0) rfl rfl) (fun U hU hW => ⟨by rw [hU]; exact (kP_app.mpr ⟨(kP_app.mp hP).1, (kP_app.mpr ⟨(kP_app.mp (kP_app.mp hP).2).1, kP_nil⟩)⟩), kK_warm hW hK, vD_sub (sbA _ (sbA _ (sb0 _))) hD⟩) ⟨rfl, rfl, Nat.le_of_ble_eq_true rfl, Nat.le_of_ble_eq_true rfl⟩ rfl hl.1 rfl (Nat.le_of_ble_eq_true rfl) dX9_readsStrike_10 ⟨Nat.le_of_ble_eq_true rfl, Nat.le_of_ble_eq_true rfl⟩) (adr_app mT_adr (adr_app rfl rfl)) (asc2 _ _ _) (ww' := mT g o ab be lm (nmZ tx lm 0 ((ot 2) - 1) z) um ua hh ++ (aW g (o 6) 150 tx ++ (aW g (o 4) 45 ot ++ []))) (asc2 _ _ _) hP hD hS (fun H locs hP hD hS => ?_)
  refine lv_istore_n (lv' := [(1, .int (nmX tx lm 0 ((ot 2) - 1) z)), (0, .ref (o 0))]) hx hb dX9_readsStrike_13 rfl hl (by decide) rfl (fun ls hl => ?_)
  refine lv_iload_n hx hb dX9_readsStrike_14 rfl (lv_at hl 0 rfl) ?_
  refine lv_iconst (v := -1) hx hb dX9_readsStrike_15 rfl ?_
  refine lv_icmp_ne (tgt := 21) hx hb dX9_readsStrike_16 (by decide) (fun c1 => ?_) (fun c1 => ?_)
  · skip
    have hbc1 := nm_yes c1
    have hP : kP g (mT g o ab be lm (nxZ tx lm z) um ua hh ++ (aW g (o 6) 150 tx ++ (aW g (o 4) 45 ot ++ []))) _ := kP_eq (by rw [show (nmZ tx lm 0 ((ot 2) - 1) z) = (nxZ tx lm z) from if_pos hbc1]) hP
    have hD : va_D _ (mT g o ab be lm (nxZ tx lm z) um ua hh ++ (aW g (o 6) 150 tx ++ (aW g (o 4) 45 ot ++ []))) := vD_eq (by rw [show (nmZ tx lm 0 ((ot 2) - 1) z) = (nxZ tx lm z) from if_pos hbc1]) hD
    have hl : lv_has ls 3 [(1, .int (nmV tx (nxZ tx lm z))), (0, .ref (o 0))] := by rw [show nmV tx (nxZ tx lm z) = nmX tx lm 0 ((ot 2) - 1) z from (if_pos hbc1).symm]; exact hl
    have hzc1 := nx_le (tx := tx) hra
    refine lv_aload_n hx hb dX9_readsStrike_21 rfl (lv_at hl 1 rfl) ?_
    refine kget hC.1 hK (kP_app.mp hP).1 0 rfl rfl in_9 5 (by decide) (gw_in m_965 rfl) rfl dX9_readsStrike_22 ?_
    refine lv_iload_n hx hb dX9_readsStrike_25 rfl (lv_at hl 0 rfl) ?_
    refine ro_i (run_S (As := [.ref (o 4), .int (nmV tx (nxZ tx lm z))]) (rest := []) hC.1 ckX9_isBroken (kX9_isBroken l g (o 4) ot (nmV tx (nxZ tx lm z)) (yNut_in (nm_nut hw hbc1) hw.n6)) (gw_in m_1133 rfl) (fb_ro _ _ _) (fun U hU hW => ⟨by rw [hU]; exact (kP_app.mp (kP_app.mp (kP_app.mp hP).2).2).1, kK_warm hW hK⟩) ⟨rfl, rfl, Nat.le_of_ble_eq_true rfl, Nat.le_of_ble_eq_true rfl⟩ rfl hl.1 rfl (Nat.le_of_ble_eq_true rfl) dX9_readsStrike_26 ⟨Nat.le_of_ble_eq_true rfl, Nat.le_of_ble_eq_true rfl⟩) ?_
    refine lv_if_eq (tgt := 39) hx hb dX9_readsStrike_29 (by decide) (fun c2 => ?_) (fun c2 => ?_)
    · skip
      have c2 := b2i_0 c2
      refine lv_aload_n hx hb dX9_readsStrike_39 rfl (lv_at hl 1 rfl) ?_
      refine lv_iconst (v := 0) hx hb dX9_readsStrike_40 rfl ?_
      refine lv_aload_n hx hb dX9_readsStrike_41 rfl (lv_at hl 1 rfl) ?_
      refine kget hC.1 hK (kP_app.mp hP).1 0 rfl rfl in_9 5 (by decide) (gw_in m_965 rfl) rfl dX9_readsStrike_42 ?_
      refine lv_iconst (v := 2) hx hb dX9_readsStrike_45 rfl ?_
      refine kald (v := ot 2) hC.1 hK (kP_app.mp (kP_app.mp (kP_app.mp hP).2).2).1 0 rfl (show vp_in (nI 2) 45 from vp_in_nI (by omega) (by omega)) (congrArg ot (show cl 2 = 2 from by decide)) dX9_readsStrike_46 ?_
      refine lv_iconst (v := 1) hx hb dX9_readsStrike_47 rfl ?_
      refine lv_isub hx hb dX9_readsStrike_48 ?_
      refine rw_i (run_V (As := [.int (0), .int ((ot 2) - 1)]) (rest := []) hC.1 ckX9_number (kX9_number l g o ab be lm (nxZ tx lm z) um ua hh tx 0 ((ot 2) - 1) hN hzc1) (gw_in m_1107 rfl) (fb_rw _ _ _) (va_recv hK.1 (kP_app.mp hP).1 (q0 := 0) rfl rfl) (fun U hU hW => ⟨by rw [hU]; exact (kP_app.mpr ⟨(kP_app.mp hP).1, (kP_app.mpr ⟨(kP_app.mp (kP_app.mp hP).2).1, kP_nil⟩)⟩), kK_warm hW hK, vD_sub (sbA _ (sbA _ (sb0 _))) hD⟩) ⟨rfl, rfl, Nat.le_of_ble_eq_true rfl, Nat.le_of_ble_eq_true rfl⟩ rfl hl.1 rfl (Nat.le_of_ble_eq_true rfl) dX9_readsStrike_49 ⟨Nat.le_of_ble_eq_true rfl, Nat.le_of_ble_eq_true rfl⟩) (adr_app mT_adr (adr_app rfl rfl)) (asc2 _ _ _) (ww' := mT g o ab be lm (nmZ tx lm 0 ((ot 2) - 1) (nxZ tx lm z)) um ua hh ++ (aW g (o 6) 150 tx ++ (aW g (o 4) 45 ot ++ []))) (asc2 _ _ _) hP hD hS (fun H locs hP hD hS => ?_)
      refine lv_istore_n (lv' := [(2, .int (nmX tx lm 0 ((ot 2) - 1) (nxZ tx lm z))), (1, .int (nmV tx (nxZ tx lm z))), (0, .ref (o 0))]) hx hb dX9_readsStrike_52 rfl hl (by decide) rfl (fun ls hl => ?_)
      refine lv_iload_n hx hb dX9_readsStrike_53 rfl (lv_at hl 0 rfl) ?_
      refine lv_iconst (v := -1) hx hb dX9_readsStrike_54 rfl ?_
      refine lv_icmp_ne (tgt := 60) hx hb dX9_readsStrike_55 (by decide) (fun c3 => ?_) (fun c3 => ?_)
      · skip
        have hbc3 := nm_yes c3
        have hP : kP g (mT g o ab be lm (nxZ tx lm (nxZ tx lm z)) um ua hh ++ (aW g (o 6) 150 tx ++ (aW g (o 4) 45 ot ++ []))) _ := kP_eq (by rw [show (nmZ tx lm 0 ((ot 2) - 1) (nxZ tx lm z)) = (nxZ tx lm (nxZ tx lm z)) from if_pos hbc3]) hP
        have hD : va_D _ (mT g o ab be lm (nxZ tx lm (nxZ tx lm z)) um ua hh ++ (aW g (o 6) 150 tx ++ (aW g (o 4) 45 ot ++ []))) := vD_eq (by rw [show (nmZ tx lm 0 ((ot 2) - 1) (nxZ tx lm z)) = (nxZ tx lm (nxZ tx lm z)) from if_pos hbc3]) hD
        have hl : lv_has ls 3 [(2, .int (nmV tx (nxZ tx lm (nxZ tx lm z)))), (1, .int (nmV tx (nxZ tx lm z))), (0, .ref (o 0))] := by rw [show nmV tx (nxZ tx lm (nxZ tx lm z)) = nmX tx lm 0 ((ot 2) - 1) (nxZ tx lm z) from (if_pos hbc3).symm]; exact hl
        have hzc3 := nx_le (tx := tx) hzc1
        refine lv_aload_n hx hb dX9_readsStrike_60 rfl (lv_at hl 2 rfl) ?_
        refine kget hC.1 hK (kP_app.mp hP).1 0 rfl rfl in_9 5 (by decide) (gw_in m_965 rfl) rfl dX9_readsStrike_61 ?_
        refine lv_iload_n hx hb dX9_readsStrike_64 rfl (lv_at hl 1 rfl) ?_
        refine lv_iload_n hx hb dX9_readsStrike_65 rfl (lv_at hl 0 rfl) ?_
        refine ro_i (run_S (As := [.ref (o 4), .int (nmV tx (nxZ tx lm z)), .int (nmV tx (nxZ tx lm (nxZ tx lm z)))]) (rest := []) hC.1 ckX9_canStrike (kX9_canStrike l g (o 4) ot (nmV tx (nxZ tx lm z)) (nmV tx (nxZ tx lm (nxZ tx lm z))) hw) (gw_in m_1136 rfl) (fb_ro _ _ _) (fun U hU hW => ⟨by rw [hU]; exact (kP_app.mp (kP_app.mp (kP_app.mp hP).2).2).1, kK_warm hW hK⟩) ⟨rfl, rfl, Nat.le_of_ble_eq_true rfl, Nat.le_of_ble_eq_true rfl⟩ rfl hl.1 rfl (Nat.le_of_ble_eq_true rfl) dX9_readsStrike_66 ⟨Nat.le_of_ble_eq_true rfl, Nat.le_of_ble_eq_true rfl⟩) ?_
        refine lv_if_ne (tgt := 79) hx hb dX9_readsStrike_69 (by decide) (fun c4 => ?_) (fun c4 => ?_)
        · skip
          have c4 := b2i_1 c4
          refine lv_aload_n hx hb dX9_readsStrike_79 rfl (lv_at hl 2 rfl) ?_
          refine rw_i (run_V (As := []) (rest := []) hC.1 ckX9_ends (kX9_ends l g o ab be lm (nxZ tx lm (nxZ tx lm z)) um ua hh tx hN hzc3) (gw_in m_1115 rfl) (fb_rw _ _ _) (va_recv hK.1 (kP_app.mp hP).1 (q0 := 0) rfl rfl) (fun U hU hW => ⟨by rw [hU]; exact (kP_app.mpr ⟨(kP_app.mp hP).1, (kP_app.mpr ⟨(kP_app.mp (kP_app.mp hP).2).1, kP_nil⟩)⟩), kK_warm hW hK, vD_sub (sbA _ (sbA _ (sb0 _))) hD⟩) ⟨rfl, rfl, Nat.le_of_ble_eq_true rfl, Nat.le_of_ble_eq_true rfl⟩ rfl hl.1 rfl (Nat.le_of_ble_eq_true rfl) dX9_readsStrike_80 ⟨Nat.le_of_ble_eq_true rfl, Nat.le_of_ble_eq_true rfl⟩) (adr_app mT_adr (adr_app rfl rfl)) (asc2 _ _ _) (ww' := mT g o ab be lm (enZ tx lm (nxZ tx lm (nxZ tx lm z))) um ua hh ++ (aW g (o 6) 150 tx ++ (aW g (o 4) 45 ot ++ []))) (asc2 _ _ _) hP hD hS (fun H locs hP hD hS => ?_)
          refine lv_if_ne (tgt := 88) hx hb dX9_readsStrike_83 (by decide) (fun c5 => ?_) (fun c5 => ?_)
          · skip
            have c5 := b2i_1 c5
            have hP : kP g (mT g o ab be lm (nxZ tx lm (nxZ tx lm (nxZ tx lm z))) um ua hh ++ (aW g (o 6) 150 tx ++ (aW g (o 4) 45 ot ++ []))) _ := kP_eq (by rw [show (enZ tx lm (nxZ tx lm (nxZ tx lm z))) = (nxZ tx lm (nxZ tx lm (nxZ tx lm z))) from if_pos c5]) hP
            have hD : va_D _ (mT g o ab be lm (nxZ tx lm (nxZ tx lm (nxZ tx lm z))) um ua hh ++ (aW g (o 6) 150 tx ++ (aW g (o 4) 45 ot ++ []))) := vD_eq (by rw [show (enZ tx lm (nxZ tx lm (nxZ tx lm z))) = (nxZ tx lm (nxZ tx lm (nxZ tx lm z))) from if_pos c5]) hD
            refine lv_aload_n hx hb dX9_readsStrike_88 rfl (lv_at hl 2 rfl) ?_
            refine kget hC.1 hK (kP_app.mp hP).1 0 rfl rfl in_9 5 (by decide) (gw_in m_965 rfl) rfl dX9_readsStrike_89 ?_
            refine lv_iload_n hx hb dX9_readsStrike_92 rfl (lv_at hl 1 rfl) ?_
            refine lv_iload_n hx hb dX9_readsStrike_93 rfl (lv_at hl 0 rfl) ?_
            have hP : kP g (aW g (o 4) 45 ot ++ (mT g o ab be lm (nxZ tx lm (nxZ tx lm (nxZ tx lm z))) um ua hh ++ (aW g (o 6) 150 tx ++ []))) _ := kP_perm ((pmA _ (pm_swap _ _ _)).trans (pm_swap _ _ _)) hP
            have hD : va_D _ (aW g (o 4) 45 ot ++ (mT g o ab be lm (nxZ tx lm (nxZ tx lm (nxZ tx lm z))) um ua hh ++ (aW g (o 6) 150 tx ++ []))) := vD_perm ((pmA _ (pm_swap _ _ _)).trans (pm_swap _ _ _)) hD
            refine rw_v (run_S (As := [.ref (o 4), .int (nmV tx (nxZ tx lm z)), .int (nmV tx (nxZ tx lm (nxZ tx lm z)))]) (rest := []) hC.1 ckX9_struck (kX9_struck l g (o 4) ot (nmV tx (nxZ tx lm z)) (nmV tx (nxZ tx lm (nxZ tx lm z))) hw c4) (gw_in m_1142 rfl) (fb_rw _ _ _) (fun U hU hW => ⟨by rw [hU]; exact (kP_app.mpr ⟨(kP_app.mp hP).1, kP_nil⟩), kK_warm hW hK, vD_sub (sbA _ (sb0 _)) hD⟩) ⟨rfl, rfl, Nat.le_of_ble_eq_true rfl, Nat.le_of_ble_eq_true rfl⟩ rfl hl.1 rfl (Nat.le_of_ble_eq_true rfl) dX9_readsStrike_94 ⟨Nat.le_of_ble_eq_true rfl, Nat.le_of_ble_eq_true rfl⟩) (adr_app aW_adr rfl) (asc1 _ _) (ww' := aW g (o 4) 45 (stk ot (nmV tx (nxZ tx lm z)) (nmV tx (nxZ tx lm (nxZ tx lm z)))) ++ (mT g o ab be lm (nxZ tx lm (nxZ tx lm (nxZ tx lm z))) um ua hh ++ (aW g (o 6) 150 tx ++ []))) (asc1 _ _) hP hD hS (fun H locs hP hD hS => ?_)
            refine lv_iconst (v := 1) hx hb dX9_readsStrike_97 rfl ?_
            have hP : kP g (mT g o ab be lm (nxZ tx lm (nxZ tx lm (nxZ tx lm z))) um ua hh ++ (aW g (o 6) 150 tx ++ (aW g (o 4) 45 (stk ot (nmV tx (nxZ tx lm z)) (nmV tx (nxZ tx lm (nxZ tx lm z)))) ++ []))) _ := kP_perm ((pm_swap _ _ _).trans (pmA _ (pm_swap _ _ _))) hP
            have hD : va_D _ (mT g o ab be lm (nxZ tx lm (nxZ tx lm (nxZ tx lm z))) um ua hh ++ (aW g (o 6) 150 tx ++ (aW g (o 4) 45 (stk ot (nmV tx (nxZ tx lm z)) (nmV tx (nxZ tx lm (nxZ tx lm z)))) ++ []))) := vD_perm ((pm_swap _ _ _).trans (pmA _ (pm_swap _ _ _))) hD
            exact ret_rwz hx hb hr hlk rfl (by simp only [mdS, hbc1, c2, hbc3, c4, c5, b2i, eq_self, if_true, if_false, Bool.false_eq_true]) (kP_eq (by simp only [mdS, hbc1, c2, hbc3, c4, c5, eq_self, if_true, if_false, Bool.false_eq_true]) hP) hS dX9_readsStrike_98
          · skip
            have c5 := b2i_0 c5
            have hP : kP g (mT g o ab be lm (flZ (nxZ tx lm (nxZ tx lm (nxZ tx lm z)))) um ua hh ++ (aW g (o 6) 150 tx ++ (aW g (o 4) 45 ot ++ []))) _ := kP_eq (by rw [show (enZ tx lm (nxZ tx lm (nxZ tx lm z))) = (flZ (nxZ tx lm (nxZ tx lm (nxZ tx lm z)))) from if_neg (by rw [c5]; decide)]) hP
            have hD : va_D _ (mT g o ab be lm (flZ (nxZ tx lm (nxZ tx lm (nxZ tx lm z)))) um ua hh ++ (aW g (o 6) 150 tx ++ (aW g (o 4) 45 ot ++ []))) := vD_eq (by rw [show (enZ tx lm (nxZ tx lm (nxZ tx lm z))) = (flZ (nxZ tx lm (nxZ tx lm (nxZ tx lm z)))) from if_neg (by rw [c5]; decide)]) hD
            refine lv_iconst (v := 0) hx hb dX9_readsStrike_86 rfl ?_
            exact ret_rwz hx hb hr hlk rfl (by simp only [mdS, hbc1, c2, hbc3, c4, c5, b2i, eq_self, if_true, if_false, Bool.false_eq_true]) (kP_eq (by simp only [mdS, hbc1, c2, hbc3, c4, c5, eq_self, if_true, if_false, Bool.false_eq_true]) hP) hS dX9_readsStrike_87
        · skip
          have c4 := b2i_0 c4
          refine lv_aload_n hx hb dX9_readsStrike_72 rfl (lv_at hl 2 rfl) ?_
          refine rw_i (run_V (As := []) (rest := []) hC.1 ckX9_fails (kX9_fails l g o ab be lm (nxZ tx lm (nxZ tx lm z)) um ua hh) (gw_in m_1111 rfl) (fb_rw _ _ _) (va_recv hK.1 (kP_app.mp hP).1 (q0 := 0) rfl rfl) (fun U hU hW => ⟨by rw [hU]; exact (kP_app.mpr ⟨(kP_app.mp hP).1, kP_nil⟩), kK_warm hW hK, vD_sub (sbA _ (sb0 _)) hD⟩) ⟨rfl, rfl, Nat.le_of_ble_eq_true rfl, Nat.le_of_ble_eq_true rfl⟩ rfl hl.1 rfl (Nat.le_of_ble_eq_true rfl) dX9_readsStrike_73 ⟨Nat.le_of_ble_eq_true rfl, Nat.le_of_ble_eq_true rfl⟩) (adr_app mT_adr rfl) (asc1 _ _) (ww' := mT g o ab be lm (flZ (nxZ tx lm (nxZ tx lm z))) um ua hh ++ (aW g (o 6) 150 tx ++ (aW g (o 4) 45 ot ++ []))) (asc1 _ _) hP hD hS (fun H locs hP hD hS => ?_)
          refine lv_pop hx hb dX9_readsStrike_76 rfl ?_
          refine lv_iconst (v := 0) hx hb dX9_readsStrike_77 rfl ?_
          exact ret_rwz hx hb hr hlk rfl (by simp only [mdS, hbc1, c2, hbc3, c4, b2i, eq_self, if_true, if_false, Bool.false_eq_true]) (kP_eq (by simp only [mdS, hbc1, c2, hbc3, c4, eq_self, if_true, if_false, Bool.false_eq_true]) hP) hS dX9_readsStrike_78
      · skip
        have hbc3 := nm_no (by decide) c3
        have hP : kP g (mT g o ab be lm (flZ (nxZ tx lm (nxZ tx lm z))) um ua hh ++ (aW g (o 6) 150 tx ++ (aW g (o 4) 45 ot ++ []))) _ := kP_eq (by rw [show (nmZ tx lm 0 ((ot 2) - 1) (nxZ tx lm z)) = (flZ (nxZ tx lm (nxZ tx lm z))) from if_neg (by rw [hbc3]; decide)]) hP
        have hD : va_D _ (mT g o ab be lm (flZ (nxZ tx lm (nxZ tx lm z))) um ua hh ++ (aW g (o 6) 150 tx ++ (aW g (o 4) 45 ot ++ []))) := vD_eq (by rw [show (nmZ tx lm 0 ((ot 2) - 1) (nxZ tx lm z)) = (flZ (nxZ tx lm (nxZ tx lm z))) from if_neg (by rw [hbc3]; decide)]) hD
        refine lv_iconst (v := 0) hx hb dX9_readsStrike_58 rfl ?_
        exact ret_rwz hx hb hr hlk rfl (by simp only [mdS, hbc1, c2, hbc3, b2i, eq_self, if_true, if_false, Bool.false_eq_true]) (kP_eq (by simp only [mdS, hbc1, c2, hbc3, eq_self, if_true, if_false, Bool.false_eq_true]) hP) hS dX9_readsStrike_59
    · skip
      have c2 := b2i_1 c2
      refine lv_aload_n hx hb dX9_readsStrike_32 rfl (lv_at hl 1 rfl) ?_
      refine rw_i (run_V (As := []) (rest := []) hC.1 ckX9_fails (kX9_fails l g o ab be lm (nxZ tx lm z) um ua hh) (gw_in m_1111 rfl) (fb_rw _ _ _) (va_recv hK.1 (kP_app.mp hP).1 (q0 := 0) rfl rfl) (fun U hU hW => ⟨by rw [hU]; exact (kP_app.mpr ⟨(kP_app.mp hP).1, kP_nil⟩), kK_warm hW hK, vD_sub (sbA _ (sb0 _)) hD⟩) ⟨rfl, rfl, Nat.le_of_ble_eq_true rfl, Nat.le_of_ble_eq_true rfl⟩ rfl hl.1 rfl (Nat.le_of_ble_eq_true rfl) dX9_readsStrike_33 ⟨Nat.le_of_ble_eq_true rfl, Nat.le_of_ble_eq_true rfl⟩) (adr_app mT_adr rfl) (asc1 _ _) (ww' := mT g o ab be lm (flZ (nxZ tx lm z)) um ua hh ++ (aW g (o 6) 150 tx ++ (aW g (o 4) 45 ot ++ []))) (asc1 _ _) hP hD hS (fun H locs hP hD hS => ?_)
      refine lv_pop hx hb dX9_readsStrike_36 rfl ?_
      refine lv_iconst (v := 0) hx hb dX9_readsStrike_37 rfl ?_
      exact ret_rwz hx hb hr hlk rfl (by simp only [mdS, hbc1, c2, b2i, eq_self, if_true, if_false, Bool.false_eq_true]) (kP_eq (by simp only [mdS, hbc1, c2, eq_self, if_true, if_false, Bool.false_eq_true]) hP) hS dX9_readsStrike_38
  · skip
    have hbc1 := nm_no (by decide) c1
    have hP : kP g (mT g o ab be lm (flZ (nxZ tx lm z)) um ua hh ++ (aW g (o 6) 150 tx ++ (aW g (o 4) 45 ot ++ []))) _ := kP_eq (by rw [show (nmZ tx lm 0 ((ot 2) - 1) z) = (flZ (nxZ tx lm z)) from if_neg (by rw [hbc1]; decide)]) hP
    have hD : va_D _ (mT g o ab be lm (flZ (nxZ tx lm z)) um ua hh ++ (aW g (o 6) 150 tx ++ (aW g (o 4) 45 ot ++ []))) := vD_eq (by rw [show (nmZ tx lm 0 ((ot 2) - 1) z) = (flZ (nxZ tx lm z)) from if_neg (by rw [hbc1]; decide)]) hD
    refine lv_iconst (v := 0) hx hb dX9_readsStrike_19 rfl ?_
    exact ret_rwz hx hb hr hlk rfl (by simp only [mdS, hbc1, b2i, eq_self, if_true, if_false, Bool.false_eq_true]) (kP_eq (by simp only [mdS, hbc1, eq_self, if_true, if_false, Bool.false_eq_true]) hP) hS dX9_readsStrike_20
set_option maxHeartbeats 4000000 in
set_option maxRecDepth 100000 in
theorem kX9_readsItem (l : Launch) (g : gG) (o : Nat → Nat) (ab be : Int64) (lm : Nat) (z : M4) (um ua : Nat) (hh : Int64) (tx ot : Nat → Int32) (b : Bool) (hN : lm ≤ 150) (hra : z.1 ≤ lm) (hw : Wf ot) : Met l yX9_readsItem (.code yX9_readsItem cX9_readsItem 2 (some .boolean) :: gw) (rmN 5) (va_Pc [.ref (o 0), .int (b2i b)] (rwPre g (mT g o ab be lm z um ua hh ++ (aW g (o 6) 150 tx ++ (aW g (o 4) 45 ot ++ []))))) (rwQi g (mT g o ab be lm z um ua hh ++ (aW g (o 6) 150 tx ++ (aW g (o 4) 45 ot ++ []))) (mT g o ab be lm (mdI tx lm b z ot).2.1 um ua hh ++ (aW g (o 6) 150 tx ++ (aW g (o 4) 45 (mdI tx lm b z ot).2.2 ++ []))) (b2i (mdI tx lm b z ot).1)) 0 0 (dm (mT g o ab be lm z um ua hh ++ (aW g (o 6) 150 tx ++ (aW g (o 4) 45 ot ++ [])))) := by
  refine met_start (by decide) (Nat.le_of_ble_eq_true rfl) ?_
  intro pp ee ss mm bl mt cd hC hpre ls hl
  obtain ⟨⟨hx, hb, hml, hown, hts⟩, hr, hlk, hnm⟩ := id hC
  have hl : lv_has ls 2 [(0, .ref (o 0)), (1, .int (b2i b))] := hl
  obtain ⟨hP, hK, hD⟩ := hpre
  have hS : va_S (dm (mT g o ab be lm z um ua hh ++ (aW g (o 6) 150 tx ++ (aW g (o 4) 45 ot ++ [])))) ss.heap ss.heap [] := va_S.rf
  have hD := vD_self hD
  refine lv_aload_n hx hb dX9_readsItem_0 rfl (lv_at hl 0 rfl) ?_
  refine rw_v (run_V (As := []) (rest := []) hC.1 ckX9_next (kX9_next l g o ab be lm z um ua hh tx hN hra) (gw_in m_1094 rfl) (fb_rw _ _ _) (va_recv hK.1 (kP_app.mp hP).1 (q0 := 0) rfl rfl) (fun U hU hW => ⟨by rw [hU]; exact (kP_app.mpr ⟨(kP_app.mp hP).1, (kP_app.mpr ⟨(kP_app.mp (kP_app.mp hP).2).1, kP_nil⟩)⟩), kK_warm hW hK, vD_sub (sbA _ (sbA _ (sb0 _))) hD⟩) ⟨rfl, rfl, Nat.le_of_ble_eq_true rfl, Nat.le_of_ble_eq_true rfl⟩ rfl hl.1 rfl (Nat.le_of_ble_eq_true rfl) dX9_readsItem_1 ⟨Nat.le_of_ble_eq_true rfl, Nat.le_of_ble_eq_true rfl⟩) (adr_app mT_adr (adr_app rfl rfl)) (asc2 _ _ _) (ww' := mT g o ab be lm (nxZ tx lm z) um ua hh ++ (aW g (o 6) 150 tx ++ (aW g (o 4) 45 ot ++ []))) (asc2 _ _ _) hP hD hS (fun H locs hP hD hS => ?_)
  have hz1 := nx_le (tx := tx) hra
  refine lv_iload_n hx hb dX9_readsItem_4 rfl (lv_at hl 1 rfl) ?_
  refine lv_if_eq (tgt := 22) hx hb dX9_readsItem_5 (by decide) (fun c1 => ?_) (fun c1 => ?_)
  · skip
    have c1 := b2i_0 c1
    refine lv_iload_n hx hb dX9_readsItem_22 rfl (lv_at hl 1 rfl) ?_
    refine lv_if_ne (tgt := 40) hx hb dX9_readsItem_23 (by decide) (fun c2 => ?_) (fun c2 => ?_)
    · skip
      have c2 := b2i_1 c2
      exact absurd c1 (by rw [c2]; decide)
    · skip
      have c2 := b2i_0 c2
      refine lv_aload_n hx hb dX9_readsItem_26 rfl (lv_at hl 0 rfl) ?_
      refine kget hC.1 hK (kP_app.mp hP).1 0 rfl rfl in_9 11 (by decide) (gw_in m_971 rfl) rfl dX9_readsItem_27 ?_
      refine lv_ldc (v := 235997865) hx hb hown (hts _ (gw_in m_1119 rfl)) dX9_readsItem_30 ?_
      refine lv_icmp_ne (tgt := 40) hx hb dX9_readsItem_32 (by decide) (fun c3 => ?_) (fun c3 => ?_)
      · skip
        refine lv_iload_n hx hb dX9_readsItem_40 rfl (lv_at hl 1 rfl) ?_
        refine lv_if_ne (tgt := 59) hx hb dX9_readsItem_41 (by decide) (fun c4 => ?_) (fun c4 => ?_)
        · skip
          have c4 := b2i_1 c4
          exact absurd c1 (by rw [c4]; decide)
        · skip
          have c4 := b2i_0 c4
          refine lv_aload_n hx hb dX9_readsItem_44 rfl (lv_at hl 0 rfl) ?_
          refine kget hC.1 hK (kP_app.mp hP).1 0 rfl rfl in_9 11 (by decide) (gw_in m_971 rfl) rfl dX9_readsItem_45 ?_
          refine lv_sipush (v := 10793) hx hb dX9_readsItem_48 rfl ?_
          refine lv_icmp_ne (tgt := 59) hx hb dX9_readsItem_51 (by decide) (fun c5 => ?_) (fun c5 => ?_)
          · skip
            refine lv_iload_n hx hb dX9_readsItem_59 rfl (lv_at hl 1 rfl) ?_
            refine lv_if_ne (tgt := 77) hx hb dX9_readsItem_60 (by decide) (fun c6 => ?_) (fun c6 => ?_)
            · skip
              have c6 := b2i_1 c6
              exact absurd c1 (by rw [c6]; decide)
            · skip
              have c6 := b2i_0 c6
              refine lv_aload_n hx hb dX9_readsItem_63 rfl (lv_at hl 0 rfl) ?_
              refine kget hC.1 hK (kP_app.mp hP).1 0 rfl rfl in_9 11 (by decide) (gw_in m_971 rfl) rfl dX9_readsItem_64 ?_
              refine lv_ldc (v := 283619210) hx hb hown (hts _ (gw_in m_1128 rfl)) dX9_readsItem_67 ?_
              refine lv_icmp_ne (tgt := 77) hx hb dX9_readsItem_69 (by decide) (fun c7 => ?_) (fun c7 => ?_)
              · skip
                refine lv_iload_n hx hb dX9_readsItem_77 rfl (lv_at hl 1 rfl) ?_
                refine lv_if_ne (tgt := 95) hx hb dX9_readsItem_78 (by decide) (fun c8 => ?_) (fun c8 => ?_)
                · skip
                  have c8 := b2i_1 c8
                  exact absurd c1 (by rw [c8]; decide)
                · skip
                  have c8 := b2i_0 c8
                  refine lv_aload_n hx hb dX9_readsItem_81 rfl (lv_at hl 0 rfl) ?_
                  refine kget hC.1 hK (kP_app.mp hP).1 0 rfl rfl in_9 11 (by decide) (gw_in m_971 rfl) rfl dX9_readsItem_82 ?_
                  refine lv_ldc (v := 453701) hx hb hown (hts _ (gw_in m_1163 rfl)) dX9_readsItem_85 ?_
                  refine lv_icmp_ne (tgt := 95) hx hb dX9_readsItem_87 (by decide) (fun c9 => ?_) (fun c9 => ?_)
                  · skip
                    refine lv_aload_n hx hb dX9_readsItem_95 rfl (lv_at hl 0 rfl) ?_
                    refine rw_i (run_V (As := []) (rest := []) hC.1 ckX9_fails (kX9_fails l g o ab be lm (nxZ tx lm z) um ua hh) (gw_in m_1111 rfl) (fb_rw _ _ _) (va_recv hK.1 (kP_app.mp hP).1 (q0 := 0) rfl rfl) (fun U hU hW => ⟨by rw [hU]; exact (kP_app.mpr ⟨(kP_app.mp hP).1, kP_nil⟩), kK_warm hW hK, vD_sub (sbA _ (sb0 _)) hD⟩) ⟨rfl, rfl, Nat.le_of_ble_eq_true rfl, Nat.le_of_ble_eq_true rfl⟩ rfl hl.1 rfl (Nat.le_of_ble_eq_true rfl) dX9_readsItem_96 ⟨Nat.le_of_ble_eq_true rfl, Nat.le_of_ble_eq_true rfl⟩) (adr_app mT_adr rfl) (asc1 _ _) (ww' := mT g o ab be lm (flZ (nxZ tx lm z)) um ua hh ++ (aW g (o 6) 150 tx ++ (aW g (o 4) 45 ot ++ []))) (asc1 _ _) hP hD hS (fun H locs hP hD hS => ?_)
                    refine lv_pop hx hb dX9_readsItem_99 rfl ?_
                    refine lv_iconst (v := 0) hx hb dX9_readsItem_100 rfl ?_
                    exact ret_rwz hx hb hr hlk rfl (by unfold mdI; rw [if_neg (by rw [c1]; decide), if_neg c3, if_neg c5, if_neg c7, if_neg c9]; rfl) (kP_eq (by unfold mdI; rw [if_neg (by rw [c1]; decide), if_neg c3, if_neg c5, if_neg c7, if_neg c9]) hP) hS dX9_readsItem_101
                  · skip
                    refine lv_aload_n hx hb dX9_readsItem_90 rfl (lv_at hl 0 rfl) ?_
                    refine rw_i (run_V (As := []) (rest := []) hC.1 ckX9_readsWait (kX9_readsWait l g o ab be lm (nxZ tx lm z) um ua hh tx ot hN hz1 hw) (gw_in m_1164 rfl) (fb_rw _ _ _) (va_recv hK.1 (kP_app.mp hP).1 (q0 := 0) rfl rfl) (fun U hU hW => ⟨by rw [hU]; exact (kP_app.mpr ⟨(kP_app.mp hP).1, (kP_app.mpr ⟨(kP_app.mp (kP_app.mp hP).2).1, (kP_app.mpr ⟨(kP_app.mp (kP_app.mp (kP_app.mp hP).2).2).1, kP_nil⟩)⟩)⟩), kK_warm hW hK, vD_sub (sbA _ (sbA _ (sbA _ (sb0 _)))) hD⟩) ⟨rfl, rfl, Nat.le_of_ble_eq_true rfl, Nat.le_of_ble_eq_true rfl⟩ rfl hl.1 rfl (Nat.le_of_ble_eq_true rfl) dX9_readsItem_91 ⟨Nat.le_of_ble_eq_true rfl, Nat.le_of_ble_eq_true rfl⟩) (adr_app mT_adr (adr_app rfl (adr_app aW_adr rfl))) (asc3 _ _ _ _) (ww' := mT g o ab be lm (mdW tx lm (nxZ tx lm z) ot).2.1 um ua hh ++ (aW g (o 6) 150 tx ++ (aW g (o 4) 45 (mdW tx lm (nxZ tx lm z) ot).2.2 ++ []))) (asc3 _ _ _ _) hP hD hS (fun H locs hP hD hS => ?_)
                    exact ret_rwz hx hb hr hlk rfl (by unfold mdI; rw [if_neg (by rw [c1]; decide), if_neg c3, if_neg c5, if_neg c7, if_pos c9]) (kP_eq (by unfold mdI; rw [if_neg (by rw [c1]; decide), if_neg c3, if_neg c5, if_neg c7, if_pos c9]) hP) hS dX9_readsItem_94
              · skip
                refine lv_aload_n hx hb dX9_readsItem_72 rfl (lv_at hl 0 rfl) ?_
                refine rw_i (run_V (As := []) (rest := []) hC.1 ckX9_readsStrike (kX9_readsStrike l g o ab be lm (nxZ tx lm z) um ua hh tx ot hN hz1 hw) (gw_in m_1129 rfl) (fb_rw _ _ _) (va_recv hK.1 (kP_app.mp hP).1 (q0 := 0) rfl rfl) (fun U hU hW => ⟨by rw [hU]; exact (kP_app.mpr ⟨(kP_app.mp hP).1, (kP_app.mpr ⟨(kP_app.mp (kP_app.mp hP).2).1, (kP_app.mpr ⟨(kP_app.mp (kP_app.mp (kP_app.mp hP).2).2).1, kP_nil⟩)⟩)⟩), kK_warm hW hK, vD_sub (sbA _ (sbA _ (sbA _ (sb0 _)))) hD⟩) ⟨rfl, rfl, Nat.le_of_ble_eq_true rfl, Nat.le_of_ble_eq_true rfl⟩ rfl hl.1 rfl (Nat.le_of_ble_eq_true rfl) dX9_readsItem_73 ⟨Nat.le_of_ble_eq_true rfl, Nat.le_of_ble_eq_true rfl⟩) (adr_app mT_adr (adr_app rfl (adr_app aW_adr rfl))) (asc3 _ _ _ _) (ww' := mT g o ab be lm (mdS tx lm (nxZ tx lm z) ot).2.1 um ua hh ++ (aW g (o 6) 150 tx ++ (aW g (o 4) 45 (mdS tx lm (nxZ tx lm z) ot).2.2 ++ []))) (asc3 _ _ _ _) hP hD hS (fun H locs hP hD hS => ?_)
                exact ret_rwz hx hb hr hlk rfl (by unfold mdI; rw [if_neg (by rw [c1]; decide), if_neg c3, if_neg c5, if_pos c7]) (kP_eq (by unfold mdI; rw [if_neg (by rw [c1]; decide), if_neg c3, if_neg c5, if_pos c7]) hP) hS dX9_readsItem_76
          · skip
            refine lv_aload_n hx hb dX9_readsItem_54 rfl (lv_at hl 0 rfl) ?_
            refine rw_i (run_V (As := []) (rest := []) hC.1 ckX9_readsNut (kX9_readsNut l g o ab be lm (nxZ tx lm z) um ua hh tx ot hN hz1 hw) (gw_in m_1124 rfl) (fb_rw _ _ _) (va_recv hK.1 (kP_app.mp hP).1 (q0 := 0) rfl rfl) (fun U hU hW => ⟨by rw [hU]; exact (kP_app.mpr ⟨(kP_app.mp hP).1, (kP_app.mpr ⟨(kP_app.mp (kP_app.mp hP).2).1, (kP_app.mpr ⟨(kP_app.mp (kP_app.mp (kP_app.mp hP).2).2).1, kP_nil⟩)⟩)⟩), kK_warm hW hK, vD_sub (sbA _ (sbA _ (sbA _ (sb0 _)))) hD⟩) ⟨rfl, rfl, Nat.le_of_ble_eq_true rfl, Nat.le_of_ble_eq_true rfl⟩ rfl hl.1 rfl (Nat.le_of_ble_eq_true rfl) dX9_readsItem_55 ⟨Nat.le_of_ble_eq_true rfl, Nat.le_of_ble_eq_true rfl⟩) (adr_app mT_adr (adr_app rfl (adr_app aW_adr rfl))) (asc3 _ _ _ _) (ww' := mT g o ab be lm (mdN tx lm (nxZ tx lm z) ot).2.1 um ua hh ++ (aW g (o 6) 150 tx ++ (aW g (o 4) 45 (mdN tx lm (nxZ tx lm z) ot).2.2 ++ []))) (asc3 _ _ _ _) hP hD hS (fun H locs hP hD hS => ?_)
            exact ret_rwz hx hb hr hlk rfl (by unfold mdI; rw [if_neg (by rw [c1]; decide), if_neg c3, if_pos c5]) (kP_eq (by unfold mdI; rw [if_neg (by rw [c1]; decide), if_neg c3, if_pos c5]) hP) hS dX9_readsItem_58
      · skip
        refine lv_aload_n hx hb dX9_readsItem_35 rfl (lv_at hl 0 rfl) ?_
        refine rw_i (run_V (As := []) (rest := []) hC.1 ckX9_readsPlayer (kX9_readsPlayer l g o ab be lm (nxZ tx lm z) um ua hh tx ot hN hz1 hw) (gw_in m_1120 rfl) (fb_rw _ _ _) (va_recv hK.1 (kP_app.mp hP).1 (q0 := 0) rfl rfl) (fun U hU hW => ⟨by rw [hU]; exact (kP_app.mpr ⟨(kP_app.mp hP).1, (kP_app.mpr ⟨(kP_app.mp (kP_app.mp hP).2).1, (kP_app.mpr ⟨(kP_app.mp (kP_app.mp (kP_app.mp hP).2).2).1, kP_nil⟩)⟩)⟩), kK_warm hW hK, vD_sub (sbA _ (sbA _ (sbA _ (sb0 _)))) hD⟩) ⟨rfl, rfl, Nat.le_of_ble_eq_true rfl, Nat.le_of_ble_eq_true rfl⟩ rfl hl.1 rfl (Nat.le_of_ble_eq_true rfl) dX9_readsItem_36 ⟨Nat.le_of_ble_eq_true rfl, Nat.le_of_ble_eq_true rfl⟩) (adr_app mT_adr (adr_app rfl (adr_app aW_adr rfl))) (asc3 _ _ _ _) (ww' := mT g o ab be lm (mdP tx lm (nxZ tx lm z) ot).2.1 um ua hh ++ (aW g (o 6) 150 tx ++ (aW g (o 4) 45 (mdP tx lm (nxZ tx lm z) ot).2.2 ++ []))) (asc3 _ _ _ _) hP hD hS (fun H locs hP hD hS => ?_)
        exact ret_rwz hx hb hr hlk rfl (by unfold mdI; rw [if_neg (by rw [c1]; decide), if_pos c3]) (kP_eq (by unfold mdI; rw [if_neg (by rw [c1]; decide), if_pos c3]) hP) hS dX9_readsItem_39
  · skip
    have c1 := b2i_1 c1
    refine lv_aload_n hx hb dX9_readsItem_8 rfl (lv_at hl 0 rfl) ?_
    refine kget hC.1 hK (kP_app.mp hP).1 0 rfl rfl in_9 11 (by decide) (gw_in m_971 rfl) rfl dX9_readsItem_9 ?_
    refine lv_ldc (v := 493294) hx hb hown (hts _ (gw_in m_1102 rfl)) dX9_readsItem_12 ?_
    refine lv_icmp_ne (tgt := 22) hx hb dX9_readsItem_14 (by decide) (fun c10 => ?_) (fun c10 => ?_)
    · skip
      refine lv_iload_n hx hb dX9_readsItem_22 rfl (lv_at hl 1 rfl) ?_
      refine lv_if_ne (tgt := 40) hx hb dX9_readsItem_23 (by decide) (fun c11 => ?_) (fun c11 => ?_)
      · skip
        have c11 := b2i_1 c11
        refine lv_iload_n hx hb dX9_readsItem_40 rfl (lv_at hl 1 rfl) ?_
        refine lv_if_ne (tgt := 59) hx hb dX9_readsItem_41 (by decide) (fun c12 => ?_) (fun c12 => ?_)
        · skip
          have c12 := b2i_1 c12
          refine lv_iload_n hx hb dX9_readsItem_59 rfl (lv_at hl 1 rfl) ?_
          refine lv_if_ne (tgt := 77) hx hb dX9_readsItem_60 (by decide) (fun c13 => ?_) (fun c13 => ?_)
          · skip
            have c13 := b2i_1 c13
            refine lv_iload_n hx hb dX9_readsItem_77 rfl (lv_at hl 1 rfl) ?_
            refine lv_if_ne (tgt := 95) hx hb dX9_readsItem_78 (by decide) (fun c14 => ?_) (fun c14 => ?_)
            · skip
              have c14 := b2i_1 c14
              refine lv_aload_n hx hb dX9_readsItem_95 rfl (lv_at hl 0 rfl) ?_
              refine rw_i (run_V (As := []) (rest := []) hC.1 ckX9_fails (kX9_fails l g o ab be lm (nxZ tx lm z) um ua hh) (gw_in m_1111 rfl) (fb_rw _ _ _) (va_recv hK.1 (kP_app.mp hP).1 (q0 := 0) rfl rfl) (fun U hU hW => ⟨by rw [hU]; exact (kP_app.mpr ⟨(kP_app.mp hP).1, kP_nil⟩), kK_warm hW hK, vD_sub (sbA _ (sb0 _)) hD⟩) ⟨rfl, rfl, Nat.le_of_ble_eq_true rfl, Nat.le_of_ble_eq_true rfl⟩ rfl hl.1 rfl (Nat.le_of_ble_eq_true rfl) dX9_readsItem_96 ⟨Nat.le_of_ble_eq_true rfl, Nat.le_of_ble_eq_true rfl⟩) (adr_app mT_adr rfl) (asc1 _ _) (ww' := mT g o ab be lm (flZ (nxZ tx lm z)) um ua hh ++ (aW g (o 6) 150 tx ++ (aW g (o 4) 45 ot ++ []))) (asc1 _ _) hP hD hS (fun H locs hP hD hS => ?_)
              refine lv_pop hx hb dX9_readsItem_99 rfl ?_
              refine lv_iconst (v := 0) hx hb dX9_readsItem_100 rfl ?_
              exact ret_rwz hx hb hr hlk rfl (by unfold mdI; rw [if_pos c1, if_neg c10]; rfl) (kP_eq (by unfold mdI; rw [if_pos c1, if_neg c10]) hP) hS dX9_readsItem_101
            · skip
              have c14 := b2i_0 c14
              exact absurd c1 (by rw [c14]; decide)
          · skip
            have c13 := b2i_0 c13
            exact absurd c1 (by rw [c13]; decide)
        · skip
          have c12 := b2i_0 c12
          exact absurd c1 (by rw [c12]; decide)
      · skip
        have c11 := b2i_0 c11
        exact absurd c1 (by rw [c11]; decide)
    · skip
      refine lv_aload_n hx hb dX9_readsItem_17 rfl (lv_at hl 0 rfl) ?_
      refine rw_i (run_V (As := []) (rest := []) hC.1 ckX9_readsYard (kX9_readsYard l g o ab be lm (nxZ tx lm z) um ua hh tx ot hN hz1 hw) (gw_in m_1103 rfl) (fb_rw _ _ _) (va_recv hK.1 (kP_app.mp hP).1 (q0 := 0) rfl rfl) (fun U hU hW => ⟨by rw [hU]; exact (kP_app.mpr ⟨(kP_app.mp hP).1, (kP_app.mpr ⟨(kP_app.mp (kP_app.mp hP).2).1, (kP_app.mpr ⟨(kP_app.mp (kP_app.mp (kP_app.mp hP).2).2).1, kP_nil⟩)⟩)⟩), kK_warm hW hK, vD_sub (sbA _ (sbA _ (sbA _ (sb0 _)))) hD⟩) ⟨rfl, rfl, Nat.le_of_ble_eq_true rfl, Nat.le_of_ble_eq_true rfl⟩ rfl hl.1 rfl (Nat.le_of_ble_eq_true rfl) dX9_readsItem_18 ⟨Nat.le_of_ble_eq_true rfl, Nat.le_of_ble_eq_true rfl⟩) (adr_app mT_adr (adr_app rfl (adr_app aW_adr rfl))) (asc3 _ _ _ _) (ww' := mT g o ab be lm (mdY tx lm (nxZ tx lm z) ot).2.1 um ua hh ++ (aW g (o 6) 150 tx ++ (aW g (o 4) 45 (mdY tx lm (nxZ tx lm z) ot).2.2 ++ []))) (asc3 _ _ _ _) hP hD hS (fun H locs hP hD hS => ?_)
      exact ret_rwz hx hb hr hlk rfl (by unfold mdI; rw [if_pos c1, if_pos c10]) (kP_eq (by unfold mdI; rw [if_pos c1, if_pos c10]) hP) hS dX9_readsItem_21
set_option maxHeartbeats 4000000 in
set_option maxRecDepth 100000 in
theorem kX9_isMore (l : Launch) (g : gG) (o : Nat → Nat) (ab be : Int64) (lm : Nat) (z : M4) (um ua : Nat) (hh : Int64) (tx : Nat → Int32)  (hN : lm ≤ 150) (hra : z.1 ≤ lm) : Met l yX9_isMore (.code yX9_isMore cX9_isMore 1 (some .boolean) :: gw) (rmN 2) (va_Pc [.ref (o 0)] (rwPre g (mT g o ab be lm z um ua hh ++ (aW g (o 6) 150 tx ++ [])))) (rwQi g (mT g o ab be lm z um ua hh ++ (aW g (o 6) 150 tx ++ [])) (mT g o ab be lm (skF (fun k => wth (tx k) 32 32) lm z.1, z.2) um ua hh ++ (aW g (o 6) 150 tx ++ [])) (b2i (decide (skF (fun k => wth (tx k) 32 32) lm z.1 < lm)))) 0 0 (dm (mT g o ab be lm z um ua hh ++ (aW g (o 6) 150 tx ++ []))) := by
  refine met_start (by decide) (Nat.le_of_ble_eq_true rfl) ?_
  intro pp ee ss mm bl mt cd hC hpre ls hl
  obtain ⟨⟨hx, hb, hml, hown, hts⟩, hr, hlk, hnm⟩ := id hC
  have hl : lv_has ls 1 [(0, .ref (o 0))] := hl
  obtain ⟨hP, hK, hD⟩ := hpre
  have hS : va_S (dm (mT g o ab be lm z um ua hh ++ (aW g (o 6) 150 tx ++ []))) ss.heap ss.heap [] := va_S.rf
  have hD := vD_self hD
  have hP : kP g (mO g o ab be lm z.1 z.2.1 z.2.2.1 z.2.2.2 um ua hh ++ (aW g (o 6) 150 tx ++ [])) _ := hP
  have hD : va_D _ (mO g o ab be lm z.1 z.2.1 z.2.2.1 z.2.2.2 um ua hh ++ (aW g (o 6) 150 tx ++ [])) := hD
  have cut0 : ∀ kk : Nat, ∀ (b : Nat), lm + 1 - b < kk → (hbN : b ≤ lm) → (heb : skF (fun k => wth (tx k) 32 32) lm b = skF (fun k => wth (tx k) 32 32) lm z.1) → ∀ (H : Heap) (locs : List Loc), kP g (mO g o ab be lm b z.2.1 z.2.2.1 z.2.2.2 um ua hh ++ (aW g (o 6) 150 tx ++ [])) H → va_D (dm (mT g o ab be lm z um ua hh ++ (aW g (o 6) 150 tx ++ []))) (mO g o ab be lm b z.2.1 z.2.2.1 z.2.2.2 um ua hh ++ (aW g (o 6) 150 tx ++ [])) → va_S (dm (mT g o ab be lm z um ua hh ++ (aW g (o 6) 150 tx ++ []))) ss.heap H locs → ∀ (ls : Array Slot), lv_has ls 1 [(0, .ref (o 0))] → W pp l ee (rmN 2) ss mm ([.ref (o 0)] : List Value).toArray bl mt cd H locs 0 0 (MQ bl (rwQi g (mT g o ab be lm z um ua hh ++ (aW g (o 6) 150 tx ++ [])) (mT g o ab be lm (skF (fun k => wth (tx k) 32 32) lm z.1, z.2) um ua hh ++ (aW g (o 6) 150 tx ++ [])) (b2i (decide (skF (fun k => wth (tx k) 32 32) lm z.1 < lm)))) ([.ref (o 0)] : List Value).toArray ss 0 0 (dm (mT g o ab be lm z um ua hh ++ (aW g (o 6) 150 tx ++ [])))) (F0 mm 0 ls []) := by
    intro kk
    induction kk with
    | zero => intro b hmu; exact absurd hmu (Nat.not_lt_zero _)
    | succ kk ih0 =>
      intro b hmu hbN heb H locs hP hD hS ls hl
      refine lv_aload_n hx hb dX9_isMore_0 rfl (lv_at hl 0 rfl) ?_
      refine lv_bipush (v := 32) hx hb dX9_isMore_1 rfl ?_
      refine lv_bipush (v := 32) hx hb dX9_isMore_3 rfl ?_
      refine ro_i (run_V (As := [.int (32), .int (32)]) (rest := []) hC.1 ckX9_isHere (kX9_isHere l g o ab be lm b z.2.1 z.2.2.1 z.2.2.2 um ua hh tx 32 32 hN (by omega)) (gw_in m_1098 rfl) (fb_ro _ _ _) (va_recv hK.1 (kP_app.mp hP).1 (q0 := 0) rfl rfl) (fun U hU hW => ⟨by rw [hU]; exact (kP_app.mpr ⟨(kP_app.mp hP).1, (kP_app.mpr ⟨(kP_app.mp (kP_app.mp hP).2).1, (kP_mem.mpr (fun _ h => absurd h List.not_mem_nil))⟩)⟩), kK_warm hW hK⟩) ⟨rfl, rfl, Nat.le_of_ble_eq_true rfl, Nat.le_of_ble_eq_true rfl⟩ rfl hl.1 rfl (Nat.le_of_ble_eq_true rfl) dX9_isMore_5 ⟨Nat.le_of_ble_eq_true rfl, Nat.le_of_ble_eq_true rfl⟩) ?_
      refine lv_if_eq (tgt := 24) hx hb dX9_isMore_8 (by decide) (fun c1 => ?_) (fun c1 => ?_)
      · skip
        have c1 := b2i_0 c1
        have hnob : ¬ (b < lm ∧ (fun k => wth (tx k) 32 32) b = true) := by intro h9; rw [show (decide (b < lm) && (fun k => wth (tx k) 32 32) b) = true from by rw [decide_eq_true h9.1]; exact h9.2] at c1; exact absurd c1 (by decide)
        have hse : skF (fun k => wth (tx k) 32 32) lm z.1 = b := heb.symm.trans (skF_stop hnob)
        refine lv_aload_n hx hb dX9_isMore_24 rfl (lv_at hl 0 rfl) ?_
        refine kget hC.1 hK (kP_app.mp hP).1 0 rfl rfl in_9 9 (by decide) (gw_in m_969 rfl) rfl dX9_isMore_25 ?_
        refine lv_aload_n hx hb dX9_isMore_28 rfl (lv_at hl 0 rfl) ?_
        refine kget hC.1 hK (kP_app.mp hP).1 0 rfl rfl in_9 7 (by decide) (gw_in m_967 rfl) rfl dX9_isMore_29 ?_
        refine lv_icmp_ge (tgt := 39) hx hb dX9_isMore_32 (by decide) (fun c2 => ?_) (fun c2 => ?_)
        · skip
          have c2' := Int32.not_lt.mpr c2
          have hbl : ¬ b < lm := by rw [nI_leI (by omega) (by omega)] at c2; omega
          refine lv_iconst (v := 0) hx hb dX9_isMore_39 rfl ?_
          exact ret_rwz hx hb hr hlk rfl (by rw [hse]; simp [b2i, hbl]) (kP_eq (by rw [hse]; rfl) hP) hS dX9_isMore_40
        · skip
          have c2' := Int32.not_le.mp c2
          have hbl : b < lm := by rw [nI_leI (by omega) (by omega)] at c2; omega
          refine lv_iconst (v := 1) hx hb dX9_isMore_35 rfl ?_
          refine lv_goto (tgt := 40) hx hb dX9_isMore_36 (by decide) ?_
          exact ret_rwz hx hb hr hlk rfl (by rw [hse]; simp [b2i, hbl]) (kP_eq (by rw [hse]; rfl) hP) hS dX9_isMore_40
      · skip
        have c1 := b2i_1 c1
        have hinb : b < lm ∧ (fun k => wth (tx k) 32 32) b = true := by have h9 := c1; simp only [Bool.and_eq_true, decide_eq_true_eq] at h9; exact h9
        refine lv_aload_n hx hb dX9_isMore_11 rfl (lv_at hl 0 rfl) ?_
        refine lv_dup hx hb dX9_isMore_12 rfl ?_
        refine kget hC.1 hK (kP_app.mp hP).1 0 rfl rfl in_9 9 (by decide) (gw_in m_969 rfl) rfl dX9_isMore_13 ?_
        refine lv_iconst (v := 1) hx hb dX9_isMore_16 rfl ?_
        refine lv_iadd hx hb dX9_isMore_17 ?_
        refine top_i (x := (nI b) + 1) (y := nI (b + 1)) (nI_1 b) ?_
        refine kput (B' := mO g o ab be lm (b + 1) z.2.1 z.2.2.1 z.2.2.2 um ua hh) hC.1 hK hP hD hS 0 rfl rfl in_9 tyX9 tyX9_ok nmX9 9 (by decide) (gw_in m_969 rfl) rfl (ty := .int) (by decide +kernel) rfl rfl (Nat.le_of_ble_eq_true rfl) (fun _ h => h) mO_adr dX9_isMore_18 (fun H locs hP hD hS => ?_)
        refine lv_goto (tgt := 0) hx hb dX9_isMore_21 (by decide) ?_
        exact ih0 (b + 1) (by omega) (by omega) ((skF_go hinb.1 hinb.2).symm.trans heb) _ _ hP hD hS _ (lv_sub hl [0] rfl)
  exact cut0 _ z.1 (Nat.lt_succ_self _) (by omega) rfl _ _ hP hD hS _ (lv_sub hl [0] rfl)
set_option maxHeartbeats 4000000 in
set_option maxRecDepth 100000 in
theorem kX9_read (l : Launch) (g : gG) (o : Nat → Nat) (ab be : Int64) (lm : Nat) (z : M4) (um ua : Nat) (hh : Int64) (tx ot r tl : Nat → Int32) (hN : lm ≤ 150) (hw : Wf ot) : Met l yX9_read (.code yX9_read cX9_read 2 (some .int) :: gw) (rmN 6) (va_Pc [.ref (o 0)] (rwPre g (mT g o ab be lm z um ua hh ++ (aW g (o 6) 150 tx ++ (aW g (o 4) 45 ot ++ (aW g (o 2) 45 r ++ (aW g (o 5) 94 tl ++ []))))))) (rwQi g (mT g o ab be lm z um ua hh ++ (aW g (o 6) 150 tx ++ (aW g (o 4) 45 ot ++ (aW g (o 2) 45 r ++ (aW g (o 5) 94 tl ++ []))))) (mO g o ab be lm (rdM tx lm (lm + 1) 0 (0, z.2) ot).2.2.1.1 (rdM tx lm (lm + 1) 0 (0, z.2) ot).2.2.1.2.1 (rdM tx lm (lm + 1) 0 (0, z.2) ot).2.2.1.2.2.1 (rdM tx lm (lm + 1) 0 (0, z.2) ot).2.2.1.2.2.2 (if (rdM tx lm (lm + 1) 0 (0, z.2) ot).1 = true then 0 else um) ua hh ++ (aW g (o 6) 150 tx ++ (aW g (o 4) 45 (rdM tx lm (lm + 1) 0 (0, z.2) ot).2.2.2 ++ (aW g (o 2) 45 (if (rdM tx lm (lm + 1) 0 (0, z.2) ot).1 = true then (rdM tx lm (lm + 1) 0 (0, z.2) ot).2.2.2 else r) ++ (aW g (o 5) 94 (if (rdM tx lm (lm + 1) 0 (0, z.2) ot).1 = true then upd (upd (upd tl 0 0) 26 0) 63 0 else tl) ++ []))))) (if (rdM tx lm (lm + 1) 0 (0, z.2) ot).1 = true then nI (rdM tx lm (lm + 1) 0 (0, z.2) ot).2.1 else -10 - (rdM tx lm (lm + 1) 0 (0, z.2) ot).2.2.1.2.2.2)) 0 0 (dm (mT g o ab be lm z um ua hh ++ (aW g (o 6) 150 tx ++ (aW g (o 4) 45 ot ++ (aW g (o 2) 45 r ++ (aW g (o 5) 94 tl ++ [])))))) := by
  refine met_start (by decide) (Nat.le_of_ble_eq_true rfl) ?_
  intro pp ee ss mm bl mt cd hC hpre ls hl
  obtain ⟨⟨hx, hb, hml, hown, hts⟩, hr, hlk, hnm⟩ := id hC
  have hl : lv_has ls 2 [(0, .ref (o 0))] := hl
  obtain ⟨hP, hK, hD⟩ := hpre
  have hS : va_S (dm (mT g o ab be lm z um ua hh ++ (aW g (o 6) 150 tx ++ (aW g (o 4) 45 ot ++ (aW g (o 2) 45 r ++ (aW g (o 5) 94 tl ++ [])))))) ss.heap ss.heap [] := va_S.rf
  have hD := vD_self hD
  have hP : kP g (mO g o ab be lm z.1 z.2.1 z.2.2.1 z.2.2.2 um ua hh ++ (aW g (o 6) 150 tx ++ (aW g (o 4) 45 ot ++ (aW g (o 2) 45 r ++ (aW g (o 5) 94 tl ++ []))))) _ := hP
  have hD : va_D _ (mO g o ab be lm z.1 z.2.1 z.2.2.1 z.2.2.2 um ua hh ++ (aW g (o 6) 150 tx ++ (aW g (o 4) 45 ot ++ (aW g (o 2) 45 r ++ (aW g (o 5) 94 tl ++ []))))) := hD
  refine lv_aload_n hx hb dX9_read_0 rfl (lv_at hl 0 rfl) ?_
  refine lv_iconst (v := 0) hx hb dX9_read_1 rfl ?_
  refine kput (B' := mO g o ab be lm 0 z.2.1 z.2.2.1 z.2.2.2 um ua hh) hC.1 hK hP hD hS 0 rfl rfl in_9 tyX9 tyX9_ok nmX9 9 (by decide) (gw_in m_969 rfl) rfl (ty := .int) (by decide +kernel) rfl rfl (Nat.le_of_ble_eq_true rfl) (fun _ h => h) mO_adr dX9_read_2 (fun H locs hP hD hS => ?_)
  have hP : kP g (mT g o ab be lm (0, z.2) um ua hh ++ (aW g (o 6) 150 tx ++ (aW g (o 4) 45 ot ++ (aW g (o 2) 45 r ++ (aW g (o 5) 94 tl ++ []))))) _ := hP
  have hD : va_D _ (mT g o ab be lm (0, z.2) um ua hh ++ (aW g (o 6) 150 tx ++ (aW g (o 4) 45 ot ++ (aW g (o 2) 45 r ++ (aW g (o 5) 94 tl ++ []))))) := hD
  refine lv_iconst (v := 0) hx hb dX9_read_5 rfl ?_
  refine lv_istore_n (lv' := [(1, .int (0)), (0, .ref (o 0))]) hx hb dX9_read_6 rfl hl (by decide) rfl (fun ls hl => ?_)
  have cut7 : ∀ kk : Nat, ∀ (F n : Nat) (w : M4) (q : Nat → Int32), F < kk → (hF : lm + 1 ≤ F + w.1) → (hwl : w.1 ≤ lm) → (hnw : n ≤ w.1) → (hwq : Wf q) → (he : rdM tx lm F n w q = rdM tx lm (lm + 1) 0 (0, z.2) ot) → ∀ (H : Heap) (locs : List Loc), kP g (mT g o ab be lm w um ua hh ++ (aW g (o 6) 150 tx ++ (aW g (o 4) 45 q ++ (aW g (o 2) 45 r ++ (aW g (o 5) 94 tl ++ []))))) H → va_D (dm (mT g o ab be lm z um ua hh ++ (aW g (o 6) 150 tx ++ (aW g (o 4) 45 ot ++ (aW g (o 2) 45 r ++ (aW g (o 5) 94 tl ++ [])))))) (mT g o ab be lm w um ua hh ++ (aW g (o 6) 150 tx ++ (aW g (o 4) 45 q ++ (aW g (o 2) 45 r ++ (aW g (o 5) 94 tl ++ []))))) → va_S (dm (mT g o ab be lm z um ua hh ++ (aW g (o 6) 150 tx ++ (aW g (o 4) 45 ot ++ (aW g (o 2) 45 r ++ (aW g (o 5) 94 tl ++ [])))))) ss.heap H locs → ∀ (ls : Array Slot), lv_has ls 2 [(0, .ref (o 0)), (1, .int (nI n))] → W pp l ee (rmN 6) ss mm ([.ref (o 0)] : List Value).toArray bl mt cd H locs 0 0 (MQ bl (rwQi g (mT g o ab be lm z um ua hh ++ (aW g (o 6) 150 tx ++ (aW g (o 4) 45 ot ++ (aW g (o 2) 45 r ++ (aW g (o 5) 94 tl ++ []))))) (mO g o ab be lm (rdM tx lm (lm + 1) 0 (0, z.2) ot).2.2.1.1 (rdM tx lm (lm + 1) 0 (0, z.2) ot).2.2.1.2.1 (rdM tx lm (lm + 1) 0 (0, z.2) ot).2.2.1.2.2.1 (rdM tx lm (lm + 1) 0 (0, z.2) ot).2.2.1.2.2.2 (if (rdM tx lm (lm + 1) 0 (0, z.2) ot).1 = true then 0 else um) ua hh ++ (aW g (o 6) 150 tx ++ (aW g (o 4) 45 (rdM tx lm (lm + 1) 0 (0, z.2) ot).2.2.2 ++ (aW g (o 2) 45 (if (rdM tx lm (lm + 1) 0 (0, z.2) ot).1 = true then (rdM tx lm (lm + 1) 0 (0, z.2) ot).2.2.2 else r) ++ (aW g (o 5) 94 (if (rdM tx lm (lm + 1) 0 (0, z.2) ot).1 = true then upd (upd (upd tl 0 0) 26 0) 63 0 else tl) ++ []))))) (if (rdM tx lm (lm + 1) 0 (0, z.2) ot).1 = true then nI (rdM tx lm (lm + 1) 0 (0, z.2) ot).2.1 else -10 - (rdM tx lm (lm + 1) 0 (0, z.2) ot).2.2.1.2.2.2)) ([.ref (o 0)] : List Value).toArray ss 0 0 (dm (mT g o ab be lm z um ua hh ++ (aW g (o 6) 150 tx ++ (aW g (o 4) 45 ot ++ (aW g (o 2) 45 r ++ (aW g (o 5) 94 tl ++ []))))))) (F0 mm 7 ls []) := by
    intro kk
    induction kk with
    | zero => intro F n w q hmu; exact absurd hmu (Nat.not_lt_zero _)
    | succ kk ih7 =>
      intro F n w q hmu hF hwl hnw hwq he H locs hP hD hS ls hl
      cases F with
      | zero => omega
      | succ F =>
      refine lv_aload_n hx hb dX9_read_7 rfl (lv_at hl 0 rfl) ?_
      refine lv_iload_n hx hb dX9_read_8 rfl (lv_at hl 1 rfl) ?_
      refine lv_if_ne (tgt := 16) hx hb dX9_read_9 (by decide) (fun c1 => ?_) (fun c1 => ?_)
      · skip
        have hn0 : ¬ n = 0 := fun e9 => c1 (by rw [e9]; rfl)
        refine lv_iconst (v := 0) hx hb dX9_read_16 rfl ?_
        refine top_i (x := 0) (y := b2i (decide (n = 0))) (by simp [b2i, hn0]) ?_
        refine rw_i (run_V (As := [.int (b2i (decide (n = 0)))]) (rest := []) hC.1 ckX9_readsItem (kX9_readsItem l g o ab be lm w um ua hh tx q (decide (n = 0)) hN hwl hwq) (gw_in m_1090 rfl) (fb_rw _ _ _) (va_recv hK.1 (kP_app.mp hP).1 (q0 := 0) rfl rfl) (fun U hU hW => ⟨by rw [hU]; exact (kP_app.mpr ⟨(kP_app.mp hP).1, (kP_app.mpr ⟨(kP_app.mp (kP_app.mp hP).2).1, (kP_app.mpr ⟨(kP_app.mp (kP_app.mp (kP_app.mp hP).2).2).1, kP_nil⟩)⟩)⟩), kK_warm hW hK, vD_sub (sbA _ (sbA _ (sbA _ (sb0 _)))) hD⟩) ⟨rfl, rfl, Nat.le_of_ble_eq_true rfl, Nat.le_of_ble_eq_true rfl⟩ rfl hl.1 rfl (Nat.le_of_ble_eq_true rfl) dX9_read_17 ⟨Nat.le_of_ble_eq_true rfl, Nat.le_of_ble_eq_true rfl⟩) (adr_app mT_adr (adr_app rfl (adr_app aW_adr rfl))) (asc3 _ _ _ _) (ww' := mT g o ab be lm (mdI tx lm (decide (n = 0)) w q).2.1 um ua hh ++ (aW g (o 6) 150 tx ++ (aW g (o 4) 45 (mdI tx lm (decide (n = 0)) w q).2.2 ++ (aW g (o 2) 45 r ++ (aW g (o 5) 94 tl ++ []))))) (asc3 _ _ _ _) hP hD hS (fun H locs hP hD hS => ?_)
        refine lv_if_ne (tgt := 31) hx hb dX9_read_20 (by decide) (fun c2 => ?_) (fun c2 => ?_)
        · skip
          have c2 := b2i_1 c2
          have hok := c2
          have hgt := (mdI_G hwl).1 hok
          refine lv_iinc (v := nI (n + 1)) (lv' := [(1, .int (nI (n + 1))), (0, .ref (o 0))]) hx hb dX9_read_31 hl (k := 1) rfl (inc_nI n) (by decide) rfl (fun ls hl => ?_)
          refine lv_aload_n hx hb dX9_read_34 rfl (lv_at hl 1 rfl) ?_
          refine rw_i (run_V (As := []) (rest := []) hC.1 ckX9_isMore (kX9_isMore l g o ab be lm (mdI tx lm (decide (n = 0)) w q).2.1 um ua hh tx hN hgt.2) (gw_in m_1171 rfl) (fb_rw _ _ _) (va_recv hK.1 (kP_app.mp hP).1 (q0 := 0) rfl rfl) (fun U hU hW => ⟨by rw [hU]; exact (kP_app.mpr ⟨(kP_app.mp hP).1, (kP_app.mpr ⟨(kP_app.mp (kP_app.mp hP).2).1, kP_nil⟩)⟩), kK_warm hW hK, vD_sub (sbA _ (sbA _ (sb0 _))) hD⟩) ⟨rfl, rfl, Nat.le_of_ble_eq_true rfl, Nat.le_of_ble_eq_true rfl⟩ rfl hl.1 rfl (Nat.le_of_ble_eq_true rfl) dX9_read_35 ⟨Nat.le_of_ble_eq_true rfl, Nat.le_of_ble_eq_true rfl⟩) (adr_app mT_adr (adr_app rfl rfl)) (asc2 _ _ _) (ww' := mT g o ab be lm (skF (fun k => wth (tx k) 32 32) lm (mdI tx lm (decide (n = 0)) w q).2.1.1, (mdI tx lm (decide (n = 0)) w q).2.1.2) um ua hh ++ (aW g (o 6) 150 tx ++ (aW g (o 4) 45 (mdI tx lm (decide (n = 0)) w q).2.2 ++ (aW g (o 2) 45 r ++ (aW g (o 5) 94 tl ++ []))))) (asc2 _ _ _) hP hD hS (fun H locs hP hD hS => ?_)
          refine lv_if_ne (tgt := 7) hx hb dX9_read_38 (by decide) (fun c3 => ?_) (fun c3 => ?_)
          · skip
            have c3 := b2i_1 c3
            have hmore : skF (fun k => wth (tx k) 32 32) lm (mdI tx lm (decide (n = 0)) w q).2.1.1 < lm := of_decide_eq_true c3
            exact ih7 F (n + 1) (skF (fun k => wth (tx k) 32 32) lm (mdI tx lm (decide (n = 0)) w q).2.1.1, (mdI tx lm (decide (n = 0)) w q).2.1.2) (mdI tx lm (decide (n = 0)) w q).2.2 (by omega) (by have := skF_ge (p := (fun k => wth (tx k) 32 32)) (N := lm) (s := (mdI tx lm (decide (n = 0)) w q).2.1.1); show lm + 1 ≤ F + skF _ lm _; omega) (skF_le hgt.2) (by have := skF_ge (p := (fun k => wth (tx k) 32 32)) (N := lm) (s := (mdI tx lm (decide (n = 0)) w q).2.1.1); show n + 1 ≤ skF _ lm _; omega) ((mdI_G hwl).2 hwq) ((((if_pos hok).trans (if_pos hmore)).symm).trans he) _ _ hP hD hS _ (lv_sub hl [1, 0] rfl)
          · skip
            have c3 := b2i_0 c3
            have hmore : ¬ skF (fun k => wth (tx k) 32 32) lm (mdI tx lm (decide (n = 0)) w q).2.1.1 < lm := of_decide_eq_false c3
            have hP : kP g (mO g o ab be lm (skF (fun k => wth (tx k) 32 32) lm (mdI tx lm (decide (n = 0)) w q).2.1.1, (mdI tx lm (decide (n = 0)) w q).2.1.2).1 (skF (fun k => wth (tx k) 32 32) lm (mdI tx lm (decide (n = 0)) w q).2.1.1, (mdI tx lm (decide (n = 0)) w q).2.1.2).2.1 (skF (fun k => wth (tx k) 32 32) lm (mdI tx lm (decide (n = 0)) w q).2.1.1, (mdI tx lm (decide (n = 0)) w q).2.1.2).2.2.1 (skF (fun k => wth (tx k) 32 32) lm (mdI tx lm (decide (n = 0)) w q).2.1.1, (mdI tx lm (decide (n = 0)) w q).2.1.2).2.2.2 um ua hh ++ (aW g (o 6) 150 tx ++ (aW g (o 4) 45 (mdI tx lm (decide (n = 0)) w q).2.2 ++ (aW g (o 2) 45 r ++ (aW g (o 5) 94 tl ++ []))))) _ := hP
            have hD : va_D _ (mO g o ab be lm (skF (fun k => wth (tx k) 32 32) lm (mdI tx lm (decide (n = 0)) w q).2.1.1, (mdI tx lm (decide (n = 0)) w q).2.1.2).1 (skF (fun k => wth (tx k) 32 32) lm (mdI tx lm (decide (n = 0)) w q).2.1.1, (mdI tx lm (decide (n = 0)) w q).2.1.2).2.1 (skF (fun k => wth (tx k) 32 32) lm (mdI tx lm (decide (n = 0)) w q).2.1.1, (mdI tx lm (decide (n = 0)) w q).2.1.2).2.2.1 (skF (fun k => wth (tx k) 32 32) lm (mdI tx lm (decide (n = 0)) w q).2.1.1, (mdI tx lm (decide (n = 0)) w q).2.1.2).2.2.2 um ua hh ++ (aW g (o 6) 150 tx ++ (aW g (o 4) 45 (mdI tx lm (decide (n = 0)) w q).2.2 ++ (aW g (o 2) 45 r ++ (aW g (o 5) 94 tl ++ []))))) := hD
            have hfin : rdM tx lm (lm + 1) 0 (0, z.2) ot = (true, n + 1, (skF (fun k => wth (tx k) 32 32) lm (mdI tx lm (decide (n = 0)) w q).2.1.1, (mdI tx lm (decide (n = 0)) w q).2.1.2), (mdI tx lm (decide (n = 0)) w q).2.2) := he.symm.trans ((if_pos hok).trans (if_neg hmore))
            refine lv_aload_n hx hb dX9_read_41 rfl (lv_at hl 1 rfl) ?_
            refine kget hC.1 hK (kP_app.mp hP).1 0 rfl rfl in_9 5 (by decide) (gw_in m_965 rfl) rfl dX9_read_42 ?_
            refine lv_aload_n hx hb dX9_read_45 rfl (lv_at hl 1 rfl) ?_
            refine kget hC.1 hK (kP_app.mp hP).1 0 rfl rfl in_9 3 (by decide) (gw_in m_963 rfl) rfl dX9_read_46 ?_
            have hP : kP g (aW g (o 4) 45 (mdI tx lm (decide (n = 0)) w q).2.2 ++ (aW g (o 2) 45 r ++ (mO g o ab be lm (skF (fun k => wth (tx k) 32 32) lm (mdI tx lm (decide (n = 0)) w q).2.1.1, (mdI tx lm (decide (n = 0)) w q).2.1.2).1 (skF (fun k => wth (tx k) 32 32) lm (mdI tx lm (decide (n = 0)) w q).2.1.1, (mdI tx lm (decide (n = 0)) w q).2.1.2).2.1 (skF (fun k => wth (tx k) 32 32) lm (mdI tx lm (decide (n = 0)) w q).2.1.1, (mdI tx lm (decide (n = 0)) w q).2.1.2).2.2.1 (skF (fun k => wth (tx k) 32 32) lm (mdI tx lm (decide (n = 0)) w q).2.1.1, (mdI tx lm (decide (n = 0)) w q).2.1.2).2.2.2 um ua hh ++ (aW g (o 6) 150 tx ++ (aW g (o 5) 94 tl ++ []))))) _ := kP_perm ((((pmA _ (pm_swap _ _ _)).trans (pm_swap _ _ _)).trans (pmA _ (pmA _ (pm_swap _ _ _)))).trans (pmA _ (pm_swap _ _ _))) hP
            have hD : va_D _ (aW g (o 4) 45 (mdI tx lm (decide (n = 0)) w q).2.2 ++ (aW g (o 2) 45 r ++ (mO g o ab be lm (skF (fun k => wth (tx k) 32 32) lm (mdI tx lm (decide (n = 0)) w q).2.1.1, (mdI tx lm (decide (n = 0)) w q).2.1.2).1 (skF (fun k => wth (tx k) 32 32) lm (mdI tx lm (decide (n = 0)) w q).2.1.1, (mdI tx lm (decide (n = 0)) w q).2.1.2).2.1 (skF (fun k => wth (tx k) 32 32) lm (mdI tx lm (decide (n = 0)) w q).2.1.1, (mdI tx lm (decide (n = 0)) w q).2.1.2).2.2.1 (skF (fun k => wth (tx k) 32 32) lm (mdI tx lm (decide (n = 0)) w q).2.1.1, (mdI tx lm (decide (n = 0)) w q).2.1.2).2.2.2 um ua hh ++ (aW g (o 6) 150 tx ++ (aW g (o 5) 94 tl ++ []))))) := vD_perm ((((pmA _ (pm_swap _ _ _)).trans (pm_swap _ _ _)).trans (pmA _ (pmA _ (pm_swap _ _ _)))).trans (pmA _ (pm_swap _ _ _))) hD
            refine rw_v (run_S (As := [.ref (o 4), .ref (o 2)]) (rest := []) hC.1 ckX9_copies (kX9_copies l g (o 4) (o 2) (mdI tx lm (decide (n = 0)) w q).2.2 r) (gw_in m_1175 rfl) (fb_rw _ _ _) (fun U hU hW => ⟨by rw [hU]; exact (kP_app.mpr ⟨(kP_app.mp hP).1, (kP_app.mpr ⟨(kP_app.mp (kP_app.mp hP).2).1, kP_nil⟩)⟩), kK_warm hW hK, vD_sub (sbA _ (sbA _ (sb0 _))) hD⟩) ⟨rfl, rfl, Nat.le_of_ble_eq_true rfl, Nat.le_of_ble_eq_true rfl⟩ rfl hl.1 rfl (Nat.le_of_ble_eq_true rfl) dX9_read_49 ⟨Nat.le_of_ble_eq_true rfl, Nat.le_of_ble_eq_true rfl⟩) (adr_app rfl (adr_app aW_adr rfl)) (asc2 _ _ _) (ww' := aW g (o 4) 45 (mdI tx lm (decide (n = 0)) w q).2.2 ++ (aW g (o 2) 45 (mdI tx lm (decide (n = 0)) w q).2.2 ++ (mO g o ab be lm (skF (fun k => wth (tx k) 32 32) lm (mdI tx lm (decide (n = 0)) w q).2.1.1, (mdI tx lm (decide (n = 0)) w q).2.1.2).1 (skF (fun k => wth (tx k) 32 32) lm (mdI tx lm (decide (n = 0)) w q).2.1.1, (mdI tx lm (decide (n = 0)) w q).2.1.2).2.1 (skF (fun k => wth (tx k) 32 32) lm (mdI tx lm (decide (n = 0)) w q).2.1.1, (mdI tx lm (decide (n = 0)) w q).2.1.2).2.2.1 (skF (fun k => wth (tx k) 32 32) lm (mdI tx lm (decide (n = 0)) w q).2.1.1, (mdI tx lm (decide (n = 0)) w q).2.1.2).2.2.2 um ua hh ++ (aW g (o 6) 150 tx ++ (aW g (o 5) 94 tl ++ []))))) (asc2 _ _ _) hP hD hS (fun H locs hP hD hS => ?_)
            refine lv_aload_n hx hb dX9_read_52 rfl (lv_at hl 1 rfl) ?_
            have hP : kP g (mO g o ab be lm (skF (fun k => wth (tx k) 32 32) lm (mdI tx lm (decide (n = 0)) w q).2.1.1, (mdI tx lm (decide (n = 0)) w q).2.1.2).1 (skF (fun k => wth (tx k) 32 32) lm (mdI tx lm (decide (n = 0)) w q).2.1.1, (mdI tx lm (decide (n = 0)) w q).2.1.2).2.1 (skF (fun k => wth (tx k) 32 32) lm (mdI tx lm (decide (n = 0)) w q).2.1.1, (mdI tx lm (decide (n = 0)) w q).2.1.2).2.2.1 (skF (fun k => wth (tx k) 32 32) lm (mdI tx lm (decide (n = 0)) w q).2.1.1, (mdI tx lm (decide (n = 0)) w q).2.1.2).2.2.2 um ua hh ++ (aW g (o 5) 94 tl ++ (aW g (o 4) 45 (mdI tx lm (decide (n = 0)) w q).2.2 ++ (aW g (o 2) 45 (mdI tx lm (decide (n = 0)) w q).2.2 ++ (aW g (o 6) 150 tx ++ []))))) _ := kP_perm (((((pmA _ (pm_swap _ _ _)).trans (pm_swap _ _ _)).trans (pmA _ (pmA _ (pmA _ (pm_swap _ _ _))))).trans (pmA _ (pmA _ (pm_swap _ _ _)))).trans (pmA _ (pm_swap _ _ _))) hP
            have hD : va_D _ (mO g o ab be lm (skF (fun k => wth (tx k) 32 32) lm (mdI tx lm (decide (n = 0)) w q).2.1.1, (mdI tx lm (decide (n = 0)) w q).2.1.2).1 (skF (fun k => wth (tx k) 32 32) lm (mdI tx lm (decide (n = 0)) w q).2.1.1, (mdI tx lm (decide (n = 0)) w q).2.1.2).2.1 (skF (fun k => wth (tx k) 32 32) lm (mdI tx lm (decide (n = 0)) w q).2.1.1, (mdI tx lm (decide (n = 0)) w q).2.1.2).2.2.1 (skF (fun k => wth (tx k) 32 32) lm (mdI tx lm (decide (n = 0)) w q).2.1.1, (mdI tx lm (decide (n = 0)) w q).2.1.2).2.2.2 um ua hh ++ (aW g (o 5) 94 tl ++ (aW g (o 4) 45 (mdI tx lm (decide (n = 0)) w q).2.2 ++ (aW g (o 2) 45 (mdI tx lm (decide (n = 0)) w q).2.2 ++ (aW g (o 6) 150 tx ++ []))))) := vD_perm (((((pmA _ (pm_swap _ _ _)).trans (pm_swap _ _ _)).trans (pmA _ (pmA _ (pmA _ (pm_swap _ _ _))))).trans (pmA _ (pmA _ (pm_swap _ _ _)))).trans (pmA _ (pm_swap _ _ _))) hD
            refine rw_v (run_V (As := []) (rest := []) hC.1 ckX9_clearTold (kX9_clearTold l g o ab be lm (skF (fun k => wth (tx k) 32 32) lm (mdI tx lm (decide (n = 0)) w q).2.1.1, (mdI tx lm (decide (n = 0)) w q).2.1.2).1 (skF (fun k => wth (tx k) 32 32) lm (mdI tx lm (decide (n = 0)) w q).2.1.1, (mdI tx lm (decide (n = 0)) w q).2.1.2).2.1 (skF (fun k => wth (tx k) 32 32) lm (mdI tx lm (decide (n = 0)) w q).2.1.1, (mdI tx lm (decide (n = 0)) w q).2.1.2).2.2.1 (skF (fun k => wth (tx k) 32 32) lm (mdI tx lm (decide (n = 0)) w q).2.1.1, (mdI tx lm (decide (n = 0)) w q).2.1.2).2.2.2 um ua hh tl) (gw_in m_1056 rfl) (fb_rw _ _ _) (va_recv hK.1 (kP_app.mp hP).1 (q0 := 0) rfl rfl) (fun U hU hW => ⟨by rw [hU]; exact (kP_app.mpr ⟨(kP_app.mp hP).1, (kP_app.mpr ⟨(kP_app.mp (kP_app.mp hP).2).1, kP_nil⟩)⟩), kK_warm hW hK, vD_sub (sbA _ (sbA _ (sb0 _))) hD⟩) ⟨rfl, rfl, Nat.le_of_ble_eq_true rfl, Nat.le_of_ble_eq_true rfl⟩ rfl hl.1 rfl (Nat.le_of_ble_eq_true rfl) dX9_read_53 ⟨Nat.le_of_ble_eq_true rfl, Nat.le_of_ble_eq_true rfl⟩) (adr_app mO_adr (adr_app aW_adr rfl)) (asc2 _ _ _) (ww' := mO g o ab be lm (skF (fun k => wth (tx k) 32 32) lm (mdI tx lm (decide (n = 0)) w q).2.1.1, (mdI tx lm (decide (n = 0)) w q).2.1.2).1 (skF (fun k => wth (tx k) 32 32) lm (mdI tx lm (decide (n = 0)) w q).2.1.1, (mdI tx lm (decide (n = 0)) w q).2.1.2).2.1 (skF (fun k => wth (tx k) 32 32) lm (mdI tx lm (decide (n = 0)) w q).2.1.1, (mdI tx lm (decide (n = 0)) w q).2.1.2).2.2.1 (skF (fun k => wth (tx k) 32 32) lm (mdI tx lm (decide (n = 0)) w q).2.1.1, (mdI tx lm (decide (n = 0)) w q).2.1.2).2.2.2 0 ua hh ++ (aW g (o 5) 94 (upd (upd (upd tl 0 0) 26 0) 63 0) ++ (aW g (o 4) 45 (mdI tx lm (decide (n = 0)) w q).2.2 ++ (aW g (o 2) 45 (mdI tx lm (decide (n = 0)) w q).2.2 ++ (aW g (o 6) 150 tx ++ []))))) (asc2 _ _ _) hP hD hS (fun H locs hP hD hS => ?_)
            refine lv_iload_n hx hb dX9_read_56 rfl (lv_at hl 0 rfl) ?_
            have hP : kP g (mO g o ab be lm (skF (fun k => wth (tx k) 32 32) lm (mdI tx lm (decide (n = 0)) w q).2.1.1, (mdI tx lm (decide (n = 0)) w q).2.1.2).1 (skF (fun k => wth (tx k) 32 32) lm (mdI tx lm (decide (n = 0)) w q).2.1.1, (mdI tx lm (decide (n = 0)) w q).2.1.2).2.1 (skF (fun k => wth (tx k) 32 32) lm (mdI tx lm (decide (n = 0)) w q).2.1.1, (mdI tx lm (decide (n = 0)) w q).2.1.2).2.2.1 (skF (fun k => wth (tx k) 32 32) lm (mdI tx lm (decide (n = 0)) w q).2.1.1, (mdI tx lm (decide (n = 0)) w q).2.1.2).2.2.2 0 ua hh ++ (aW g (o 6) 150 tx ++ (aW g (o 4) 45 (mdI tx lm (decide (n = 0)) w q).2.2 ++ (aW g (o 2) 45 (mdI tx lm (decide (n = 0)) w q).2.2 ++ (aW g (o 5) 94 (upd (upd (upd tl 0 0) 26 0) 63 0) ++ []))))) _ := kP_perm (((((pmA _ (pmA _ (pmA _ (pm_swap _ _ _)))).trans (pmA _ (pmA _ (pm_swap _ _ _)))).trans (pmA _ (pm_swap _ _ _))).trans (pmA _ (pmA _ (pm_swap _ _ _)))).trans (pmA _ (pmA _ (pmA _ (pm_swap _ _ _))))) hP
            have hD : va_D _ (mO g o ab be lm (skF (fun k => wth (tx k) 32 32) lm (mdI tx lm (decide (n = 0)) w q).2.1.1, (mdI tx lm (decide (n = 0)) w q).2.1.2).1 (skF (fun k => wth (tx k) 32 32) lm (mdI tx lm (decide (n = 0)) w q).2.1.1, (mdI tx lm (decide (n = 0)) w q).2.1.2).2.1 (skF (fun k => wth (tx k) 32 32) lm (mdI tx lm (decide (n = 0)) w q).2.1.1, (mdI tx lm (decide (n = 0)) w q).2.1.2).2.2.1 (skF (fun k => wth (tx k) 32 32) lm (mdI tx lm (decide (n = 0)) w q).2.1.1, (mdI tx lm (decide (n = 0)) w q).2.1.2).2.2.2 0 ua hh ++ (aW g (o 6) 150 tx ++ (aW g (o 4) 45 (mdI tx lm (decide (n = 0)) w q).2.2 ++ (aW g (o 2) 45 (mdI tx lm (decide (n = 0)) w q).2.2 ++ (aW g (o 5) 94 (upd (upd (upd tl 0 0) 26 0) 63 0) ++ []))))) := vD_perm (((((pmA _ (pmA _ (pmA _ (pm_swap _ _ _)))).trans (pmA _ (pmA _ (pm_swap _ _ _)))).trans (pmA _ (pm_swap _ _ _))).trans (pmA _ (pmA _ (pm_swap _ _ _)))).trans (pmA _ (pmA _ (pmA _ (pm_swap _ _ _))))) hD
            exact ret_rwi hx hb hr hlk (by rw [hfin]; rfl) (kP_eq (by rw [hfin]; rfl) hP) hS dX9_read_57
        · skip
          have c2 := b2i_0 c2
          have hok := c2
          have hfin : rdM tx lm (lm + 1) 0 (0, z.2) ot = (false, n, (mdI tx lm (decide (n = 0)) w q).2.1, (mdI tx lm (decide (n = 0)) w q).2.2) := he.symm.trans (if_neg (by rw [hok]; decide))
          refine lv_bipush (v := -10) hx hb dX9_read_23 rfl ?_
          refine lv_aload_n hx hb dX9_read_25 rfl (lv_at hl 0 rfl) ?_
          refine kget hC.1 hK (kP_app.mp hP).1 0 rfl rfl in_9 12 (by decide) (gw_in m_972 rfl) rfl dX9_read_26 ?_
          refine lv_isub hx hb dX9_read_29 ?_
          exact ret_rwi hx hb hr hlk (by rw [hfin]; rfl) (kP_eq (by rw [hfin]; rfl) hP) hS dX9_read_30
      · skip
        have hn0 : n = 0 := by rw [show (0 : Int32) = nI 0 from rfl, nI_eq (by omega) (by omega)] at c1; exact c1
        refine lv_iconst (v := 1) hx hb dX9_read_12 rfl ?_
        refine lv_goto (tgt := 17) hx hb dX9_read_13 (by decide) ?_
        refine top_i (x := 1) (y := b2i (decide (n = 0))) (by simp [b2i, hn0]) ?_
        refine rw_i (run_V (As := [.int (b2i (decide (n = 0)))]) (rest := []) hC.1 ckX9_readsItem (kX9_readsItem l g o ab be lm w um ua hh tx q (decide (n = 0)) hN hwl hwq) (gw_in m_1090 rfl) (fb_rw _ _ _) (va_recv hK.1 (kP_app.mp hP).1 (q0 := 0) rfl rfl) (fun U hU hW => ⟨by rw [hU]; exact (kP_app.mpr ⟨(kP_app.mp hP).1, (kP_app.mpr ⟨(kP_app.mp (kP_app.mp hP).2).1, (kP_app.mpr ⟨(kP_app.mp (kP_app.mp (kP_app.mp hP).2).2).1, kP_nil⟩)⟩)⟩), kK_warm hW hK, vD_sub (sbA _ (sbA _ (sbA _ (sb0 _)))) hD⟩) ⟨rfl, rfl, Nat.le_of_ble_eq_true rfl, Nat.le_of_ble_eq_true rfl⟩ rfl hl.1 rfl (Nat.le_of_ble_eq_true rfl) dX9_read_17 ⟨Nat.le_of_ble_eq_true rfl, Nat.le_of_ble_eq_true rfl⟩) (adr_app mT_adr (adr_app rfl (adr_app aW_adr rfl))) (asc3 _ _ _ _) (ww' := mT g o ab be lm (mdI tx lm (decide (n = 0)) w q).2.1 um ua hh ++ (aW g (o 6) 150 tx ++ (aW g (o 4) 45 (mdI tx lm (decide (n = 0)) w q).2.2 ++ (aW g (o 2) 45 r ++ (aW g (o 5) 94 tl ++ []))))) (asc3 _ _ _ _) hP hD hS (fun H locs hP hD hS => ?_)
        refine lv_if_ne (tgt := 31) hx hb dX9_read_20 (by decide) (fun c4 => ?_) (fun c4 => ?_)
        · skip
          have c4 := b2i_1 c4
          have hok := c4
          have hgt := (mdI_G hwl).1 hok
          refine lv_iinc (v := nI (n + 1)) (lv' := [(1, .int (nI (n + 1))), (0, .ref (o 0))]) hx hb dX9_read_31 hl (k := 1) rfl (inc_nI n) (by decide) rfl (fun ls hl => ?_)
          refine lv_aload_n hx hb dX9_read_34 rfl (lv_at hl 1 rfl) ?_
          refine rw_i (run_V (As := []) (rest := []) hC.1 ckX9_isMore (kX9_isMore l g o ab be lm (mdI tx lm (decide (n = 0)) w q).2.1 um ua hh tx hN hgt.2) (gw_in m_1171 rfl) (fb_rw _ _ _) (va_recv hK.1 (kP_app.mp hP).1 (q0 := 0) rfl rfl) (fun U hU hW => ⟨by rw [hU]; exact (kP_app.mpr ⟨(kP_app.mp hP).1, (kP_app.mpr ⟨(kP_app.mp (kP_app.mp hP).2).1, kP_nil⟩)⟩), kK_warm hW hK, vD_sub (sbA _ (sbA _ (sb0 _))) hD⟩) ⟨rfl, rfl, Nat.le_of_ble_eq_true rfl, Nat.le_of_ble_eq_true rfl⟩ rfl hl.1 rfl (Nat.le_of_ble_eq_true rfl) dX9_read_35 ⟨Nat.le_of_ble_eq_true rfl, Nat.le_of_ble_eq_true rfl⟩) (adr_app mT_adr (adr_app rfl rfl)) (asc2 _ _ _) (ww' := mT g o ab be lm (skF (fun k => wth (tx k) 32 32) lm (mdI tx lm (decide (n = 0)) w q).2.1.1, (mdI tx lm (decide (n = 0)) w q).2.1.2) um ua hh ++ (aW g (o 6) 150 tx ++ (aW g (o 4) 45 (mdI tx lm (decide (n = 0)) w q).2.2 ++ (aW g (o 2) 45 r ++ (aW g (o 5) 94 tl ++ []))))) (asc2 _ _ _) hP hD hS (fun H locs hP hD hS => ?_)
          refine lv_if_ne (tgt := 7) hx hb dX9_read_38 (by decide) (fun c5 => ?_) (fun c5 => ?_)
          · skip
            have c5 := b2i_1 c5
            have hmore : skF (fun k => wth (tx k) 32 32) lm (mdI tx lm (decide (n = 0)) w q).2.1.1 < lm := of_decide_eq_true c5
            exact ih7 F (n + 1) (skF (fun k => wth (tx k) 32 32) lm (mdI tx lm (decide (n = 0)) w q).2.1.1, (mdI tx lm (decide (n = 0)) w q).2.1.2) (mdI tx lm (decide (n = 0)) w q).2.2 (by omega) (by have := skF_ge (p := (fun k => wth (tx k) 32 32)) (N := lm) (s := (mdI tx lm (decide (n = 0)) w q).2.1.1); show lm + 1 ≤ F + skF _ lm _; omega) (skF_le hgt.2) (by have := skF_ge (p := (fun k => wth (tx k) 32 32)) (N := lm) (s := (mdI tx lm (decide (n = 0)) w q).2.1.1); show n + 1 ≤ skF _ lm _; omega) ((mdI_G hwl).2 hwq) ((((if_pos hok).trans (if_pos hmore)).symm).trans he) _ _ hP hD hS _ (lv_sub hl [1, 0] rfl)
          · skip
            have c5 := b2i_0 c5
            have hmore : ¬ skF (fun k => wth (tx k) 32 32) lm (mdI tx lm (decide (n = 0)) w q).2.1.1 < lm := of_decide_eq_false c5
            have hP : kP g (mO g o ab be lm (skF (fun k => wth (tx k) 32 32) lm (mdI tx lm (decide (n = 0)) w q).2.1.1, (mdI tx lm (decide (n = 0)) w q).2.1.2).1 (skF (fun k => wth (tx k) 32 32) lm (mdI tx lm (decide (n = 0)) w q).2.1.1, (mdI tx lm (decide (n = 0)) w q).2.1.2).2.1 (skF (fun k => wth (tx k) 32 32) lm (mdI tx lm (decide (n = 0)) w q).2.1.1, (mdI tx lm (decide (n = 0)) w q).2.1.2).2.2.1 (skF (fun k => wth (tx k) 32 32) lm (mdI tx lm (decide (n = 0)) w q).2.1.1, (mdI tx lm (decide (n = 0)) w q).2.1.2).2.2.2 um ua hh ++ (aW g (o 6) 150 tx ++ (aW g (o 4) 45 (mdI tx lm (decide (n = 0)) w q).2.2 ++ (aW g (o 2) 45 r ++ (aW g (o 5) 94 tl ++ []))))) _ := hP
            have hD : va_D _ (mO g o ab be lm (skF (fun k => wth (tx k) 32 32) lm (mdI tx lm (decide (n = 0)) w q).2.1.1, (mdI tx lm (decide (n = 0)) w q).2.1.2).1 (skF (fun k => wth (tx k) 32 32) lm (mdI tx lm (decide (n = 0)) w q).2.1.1, (mdI tx lm (decide (n = 0)) w q).2.1.2).2.1 (skF (fun k => wth (tx k) 32 32) lm (mdI tx lm (decide (n = 0)) w q).2.1.1, (mdI tx lm (decide (n = 0)) w q).2.1.2).2.2.1 (skF (fun k => wth (tx k) 32 32) lm (mdI tx lm (decide (n = 0)) w q).2.1.1, (mdI tx lm (decide (n = 0)) w q).2.1.2).2.2.2 um ua hh ++ (aW g (o 6) 150 tx ++ (aW g (o 4) 45 (mdI tx lm (decide (n = 0)) w q).2.2 ++ (aW g (o 2) 45 r ++ (aW g (o 5) 94 tl ++ []))))) := hD
            have hfin : rdM tx lm (lm + 1) 0 (0, z.2) ot = (true, n + 1, (skF (fun k => wth (tx k) 32 32) lm (mdI tx lm (decide (n = 0)) w q).2.1.1, (mdI tx lm (decide (n = 0)) w q).2.1.2), (mdI tx lm (decide (n = 0)) w q).2.2) := he.symm.trans ((if_pos hok).trans (if_neg hmore))
            refine lv_aload_n hx hb dX9_read_41 rfl (lv_at hl 1 rfl) ?_
            refine kget hC.1 hK (kP_app.mp hP).1 0 rfl rfl in_9 5 (by decide) (gw_in m_965 rfl) rfl dX9_read_42 ?_
            refine lv_aload_n hx hb dX9_read_45 rfl (lv_at hl 1 rfl) ?_
            refine kget hC.1 hK (kP_app.mp hP).1 0 rfl rfl in_9 3 (by decide) (gw_in m_963 rfl) rfl dX9_read_46 ?_
            have hP : kP g (aW g (o 4) 45 (mdI tx lm (decide (n = 0)) w q).2.2 ++ (aW g (o 2) 45 r ++ (mO g o ab be lm (skF (fun k => wth (tx k) 32 32) lm (mdI tx lm (decide (n = 0)) w q).2.1.1, (mdI tx lm (decide (n = 0)) w q).2.1.2).1 (skF (fun k => wth (tx k) 32 32) lm (mdI tx lm (decide (n = 0)) w q).2.1.1, (mdI tx lm (decide (n = 0)) w q).2.1.2).2.1 (skF (fun k => wth (tx k) 32 32) lm (mdI tx lm (decide (n = 0)) w q).2.1.1, (mdI tx lm (decide (n = 0)) w q).2.1.2).2.2.1 (skF (fun k => wth (tx k) 32 32) lm (mdI tx lm (decide (n = 0)) w q).2.1.1, (mdI tx lm (decide (n = 0)) w q).2.1.2).2.2.2 um ua hh ++ (aW g (o 6) 150 tx ++ (aW g (o 5) 94 tl ++ []))))) _ := kP_perm ((((pmA _ (pm_swap _ _ _)).trans (pm_swap _ _ _)).trans (pmA _ (pmA _ (pm_swap _ _ _)))).trans (pmA _ (pm_swap _ _ _))) hP
            have hD : va_D _ (aW g (o 4) 45 (mdI tx lm (decide (n = 0)) w q).2.2 ++ (aW g (o 2) 45 r ++ (mO g o ab be lm (skF (fun k => wth (tx k) 32 32) lm (mdI tx lm (decide (n = 0)) w q).2.1.1, (mdI tx lm (decide (n = 0)) w q).2.1.2).1 (skF (fun k => wth (tx k) 32 32) lm (mdI tx lm (decide (n = 0)) w q).2.1.1, (mdI tx lm (decide (n = 0)) w q).2.1.2).2.1 (skF (fun k => wth (tx k) 32 32) lm (mdI tx lm (decide (n = 0)) w q).2.1.1, (mdI tx lm (decide (n = 0)) w q).2.1.2).2.2.1 (skF (fun k => wth (tx k) 32 32) lm (mdI tx lm (decide (n = 0)) w q).2.1.1, (mdI tx lm (decide (n = 0)) w q).2.1.2).2.2.2 um ua hh ++ (aW g (o 6) 150 tx ++ (aW g (o 5) 94 tl ++ []))))) := vD_perm ((((pmA _ (pm_swap _ _ _)).trans (pm_swap _ _ _)).trans (pmA _ (pmA _ (pm_swap _ _ _)))).trans (pmA _ (pm_swap _ _ _))) hD
            refine rw_v (run_S (As := [.ref (o 4), .ref (o 2)]) (rest := []) hC.1 ckX9_copies (kX9_copies l g (o 4) (o 2) (mdI tx lm (decide (n = 0)) w q).2.2 r) (gw_in m_1175 rfl) (fb_rw _ _ _) (fun U hU hW => ⟨by rw [hU]; exact (kP_app.mpr ⟨(kP_app.mp hP).1, (kP_app.mpr ⟨(kP_app.mp (kP_app.mp hP).2).1, kP_nil⟩)⟩), kK_warm hW hK, vD_sub (sbA _ (sbA _ (sb0 _))) hD⟩) ⟨rfl, rfl, Nat.le_of_ble_eq_true rfl, Nat.le_of_ble_eq_true rfl⟩ rfl hl.1 rfl (Nat.le_of_ble_eq_true rfl) dX9_read_49 ⟨Nat.le_of_ble_eq_true rfl, Nat.le_of_ble_eq_true rfl⟩) (adr_app rfl (adr_app aW_adr rfl)) (asc2 _ _ _) (ww' := aW g (o 4) 45 (mdI tx lm (decide (n = 0)) w q).2.2 ++ (aW g (o 2) 45 (mdI tx lm (decide (n = 0)) w q).2.2 ++ (mO g o ab be lm (skF (fun k => wth (tx k) 32 32) lm (mdI tx lm (decide (n = 0)) w q).2.1.1, (mdI tx lm (decide (n = 0)) w q).2.1.2).1 (skF (fun k => wth (tx k) 32 32) lm (mdI tx lm (decide (n = 0)) w q).2.1.1, (mdI tx lm (decide (n = 0)) w q).2.1.2).2.1 (skF (fun k => wth (tx k) 32 32) lm (mdI tx lm (decide (n = 0)) w q).2.1.1, (mdI tx lm (decide (n = 0)) w q).2.1.2).2.2.1 (skF (fun k => wth (tx k) 32 32) lm (mdI tx lm (decide (n = 0)) w q).2.1.1, (mdI tx lm (decide (n = 0)) w q).2.1.2).2.2.2 um ua hh ++ (aW g (o 6) 150 tx ++ (aW g (o 5) 94 tl ++ []))))) (asc2 _ _ _) hP hD hS (fun H locs hP hD hS => ?_)
            refine lv_aload_n hx hb dX9_read_52 rfl (lv_at hl 1 rfl) ?_
            have hP : kP g (mO g o ab be lm (skF (fun k => wth (tx k) 32 32) lm (mdI tx lm (decide (n = 0)) w q).2.1.1, (mdI tx lm (decide (n = 0)) w q).2.1.2).1 (skF (fun k => wth (tx k) 32 32) lm (mdI tx lm (decide (n = 0)) w q).2.1.1, (mdI tx lm (decide (n = 0)) w q).2.1.2).2.1 (skF (fun k => wth (tx k) 32 32) lm (mdI tx lm (decide (n = 0)) w q).2.1.1, (mdI tx lm (decide (n = 0)) w q).2.1.2).2.2.1 (skF (fun k => wth (tx k) 32 32) lm (mdI tx lm (decide (n = 0)) w q).2.1.1, (mdI tx lm (decide (n = 0)) w q).2.1.2).2.2.2 um ua hh ++ (aW g (o 5) 94 tl ++ (aW g (o 4) 45 (mdI tx lm (decide (n = 0)) w q).2.2 ++ (aW g (o 2) 45 (mdI tx lm (decide (n = 0)) w q).2.2 ++ (aW g (o 6) 150 tx ++ []))))) _ := kP_perm (((((pmA _ (pm_swap _ _ _)).trans (pm_swap _ _ _)).trans (pmA _ (pmA _ (pmA _ (pm_swap _ _ _))))).trans (pmA _ (pmA _ (pm_swap _ _ _)))).trans (pmA _ (pm_swap _ _ _))) hP
            have hD : va_D _ (mO g o ab be lm (skF (fun k => wth (tx k) 32 32) lm (mdI tx lm (decide (n = 0)) w q).2.1.1, (mdI tx lm (decide (n = 0)) w q).2.1.2).1 (skF (fun k => wth (tx k) 32 32) lm (mdI tx lm (decide (n = 0)) w q).2.1.1, (mdI tx lm (decide (n = 0)) w q).2.1.2).2.1 (skF (fun k => wth (tx k) 32 32) lm (mdI tx lm (decide (n = 0)) w q).2.1.1, (mdI tx lm (decide (n = 0)) w q).2.1.2).2.2.1 (skF (fun k => wth (tx k) 32 32) lm (mdI tx lm (decide (n = 0)) w q).2.1.1, (mdI tx lm (decide (n = 0)) w q).2.1.2).2.2.2 um ua hh ++ (aW g (o 5) 94 tl ++ (aW g (o 4) 45 (mdI tx lm (decide (n = 0)) w q).2.2 ++ (aW g (o 2) 45 (mdI tx lm (decide (n = 0)) w q).2.2 ++ (aW g (o 6) 150 tx ++ []))))) := vD_perm (((((pmA _ (pm_swap _ _ _)).trans (pm_swap _ _ _)).trans (pmA _ (pmA _ (pmA _ (pm_swap _ _ _))))).trans (pmA _ (pmA _ (pm_swap _ _ _)))).trans (pmA _ (pm_swap _ _ _))) hD
            refine rw_v (run_V (As := []) (rest := []) hC.1 ckX9_clearTold (kX9_clearTold l g o ab be lm (skF (fun k => wth (tx k) 32 32) lm (mdI tx lm (decide (n = 0)) w q).2.1.1, (mdI tx lm (decide (n = 0)) w q).2.1.2).1 (skF (fun k => wth (tx k) 32 32) lm (mdI tx lm (decide (n = 0)) w q).2.1.1, (mdI tx lm (decide (n = 0)) w q).2.1.2).2.1 (skF (fun k => wth (tx k) 32 32) lm (mdI tx lm (decide (n = 0)) w q).2.1.1, (mdI tx lm (decide (n = 0)) w q).2.1.2).2.2.1 (skF (fun k => wth (tx k) 32 32) lm (mdI tx lm (decide (n = 0)) w q).2.1.1, (mdI tx lm (decide (n = 0)) w q).2.1.2).2.2.2 um ua hh tl) (gw_in m_1056 rfl) (fb_rw _ _ _) (va_recv hK.1 (kP_app.mp hP).1 (q0 := 0) rfl rfl) (fun U hU hW => ⟨by rw [hU]; exact (kP_app.mpr ⟨(kP_app.mp hP).1, (kP_app.mpr ⟨(kP_app.mp (kP_app.mp hP).2).1, kP_nil⟩)⟩), kK_warm hW hK, vD_sub (sbA _ (sbA _ (sb0 _))) hD⟩) ⟨rfl, rfl, Nat.le_of_ble_eq_true rfl, Nat.le_of_ble_eq_true rfl⟩ rfl hl.1 rfl (Nat.le_of_ble_eq_true rfl) dX9_read_53 ⟨Nat.le_of_ble_eq_true rfl, Nat.le_of_ble_eq_true rfl⟩) (adr_app mO_adr (adr_app aW_adr rfl)) (asc2 _ _ _) (ww' := mO g o ab be lm (skF (fun k => wth (tx k) 32 32) lm (mdI tx lm (decide (n = 0)) w q).2.1.1, (mdI tx lm (decide (n = 0)) w q).2.1.2).1 (skF (fun k => wth (tx k) 32 32) lm (mdI tx lm (decide (n = 0)) w q).2.1.1, (mdI tx lm (decide (n = 0)) w q).2.1.2).2.1 (skF (fun k => wth (tx k) 32 32) lm (mdI tx lm (decide (n = 0)) w q).2.1.1, (mdI tx lm (decide (n = 0)) w q).2.1.2).2.2.1 (skF (fun k => wth (tx k) 32 32) lm (mdI tx lm (decide (n = 0)) w q).2.1.1, (mdI tx lm (decide (n = 0)) w q).2.1.2).2.2.2 0 ua hh ++ (aW g (o 5) 94 (upd (upd (upd tl 0 0) 26 0) 63 0) ++ (aW g (o 4) 45 (mdI tx lm (decide (n = 0)) w q).2.2 ++ (aW g (o 2) 45 (mdI tx lm (decide (n = 0)) w q).2.2 ++ (aW g (o 6) 150 tx ++ []))))) (asc2 _ _ _) hP hD hS (fun H locs hP hD hS => ?_)
            refine lv_iload_n hx hb dX9_read_56 rfl (lv_at hl 0 rfl) ?_
            have hP : kP g (mO g o ab be lm (skF (fun k => wth (tx k) 32 32) lm (mdI tx lm (decide (n = 0)) w q).2.1.1, (mdI tx lm (decide (n = 0)) w q).2.1.2).1 (skF (fun k => wth (tx k) 32 32) lm (mdI tx lm (decide (n = 0)) w q).2.1.1, (mdI tx lm (decide (n = 0)) w q).2.1.2).2.1 (skF (fun k => wth (tx k) 32 32) lm (mdI tx lm (decide (n = 0)) w q).2.1.1, (mdI tx lm (decide (n = 0)) w q).2.1.2).2.2.1 (skF (fun k => wth (tx k) 32 32) lm (mdI tx lm (decide (n = 0)) w q).2.1.1, (mdI tx lm (decide (n = 0)) w q).2.1.2).2.2.2 0 ua hh ++ (aW g (o 6) 150 tx ++ (aW g (o 4) 45 (mdI tx lm (decide (n = 0)) w q).2.2 ++ (aW g (o 2) 45 (mdI tx lm (decide (n = 0)) w q).2.2 ++ (aW g (o 5) 94 (upd (upd (upd tl 0 0) 26 0) 63 0) ++ []))))) _ := kP_perm (((((pmA _ (pmA _ (pmA _ (pm_swap _ _ _)))).trans (pmA _ (pmA _ (pm_swap _ _ _)))).trans (pmA _ (pm_swap _ _ _))).trans (pmA _ (pmA _ (pm_swap _ _ _)))).trans (pmA _ (pmA _ (pmA _ (pm_swap _ _ _))))) hP
            have hD : va_D _ (mO g o ab be lm (skF (fun k => wth (tx k) 32 32) lm (mdI tx lm (decide (n = 0)) w q).2.1.1, (mdI tx lm (decide (n = 0)) w q).2.1.2).1 (skF (fun k => wth (tx k) 32 32) lm (mdI tx lm (decide (n = 0)) w q).2.1.1, (mdI tx lm (decide (n = 0)) w q).2.1.2).2.1 (skF (fun k => wth (tx k) 32 32) lm (mdI tx lm (decide (n = 0)) w q).2.1.1, (mdI tx lm (decide (n = 0)) w q).2.1.2).2.2.1 (skF (fun k => wth (tx k) 32 32) lm (mdI tx lm (decide (n = 0)) w q).2.1.1, (mdI tx lm (decide (n = 0)) w q).2.1.2).2.2.2 0 ua hh ++ (aW g (o 6) 150 tx ++ (aW g (o 4) 45 (mdI tx lm (decide (n = 0)) w q).2.2 ++ (aW g (o 2) 45 (mdI tx lm (decide (n = 0)) w q).2.2 ++ (aW g (o 5) 94 (upd (upd (upd tl 0 0) 26 0) 63 0) ++ []))))) := vD_perm (((((pmA _ (pmA _ (pmA _ (pm_swap _ _ _)))).trans (pmA _ (pmA _ (pm_swap _ _ _)))).trans (pmA _ (pm_swap _ _ _))).trans (pmA _ (pmA _ (pm_swap _ _ _)))).trans (pmA _ (pmA _ (pmA _ (pm_swap _ _ _))))) hD
            exact ret_rwi hx hb hr hlk (by rw [hfin]; rfl) (kP_eq (by rw [hfin]; rfl) hP) hS dX9_read_57
        · skip
          have c4 := b2i_0 c4
          have hok := c4
          have hfin : rdM tx lm (lm + 1) 0 (0, z.2) ot = (false, n, (mdI tx lm (decide (n = 0)) w q).2.1, (mdI tx lm (decide (n = 0)) w q).2.2) := he.symm.trans (if_neg (by rw [hok]; decide))
          refine lv_bipush (v := -10) hx hb dX9_read_23 rfl ?_
          refine lv_aload_n hx hb dX9_read_25 rfl (lv_at hl 0 rfl) ?_
          refine kget hC.1 hK (kP_app.mp hP).1 0 rfl rfl in_9 12 (by decide) (gw_in m_972 rfl) rfl dX9_read_26 ?_
          refine lv_isub hx hb dX9_read_29 ?_
          exact ret_rwi hx hb hr hlk (by rw [hfin]; rfl) (kP_eq (by rw [hfin]; rfl) hP) hS dX9_read_30
  exact cut7 _ (lm + 1) 0 (0, z.2) ot (Nat.lt_succ_self _) (Nat.le_refl _) (Nat.zero_le _) (Nat.le_refl _) hw rfl _ _ hP hD hS _ (lv_sub hl [1, 0] rfl)
