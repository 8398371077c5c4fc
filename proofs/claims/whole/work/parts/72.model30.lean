theorem ckX9_isHere : ckV yX9_isHere cX9_isHere 3 (some .boolean) 2 := ⟨(gw_in m_1101 rfl), (gw_in m_71 rfl), ⟨(gw_in m_1100 rfl), (gw_in m_35 rfl)⟩, by decide +kernel, by decide +kernel, by decide +kernel⟩
theorem ckX9_next : ckV yX9_next cX9_next 1 none 0 := ⟨(gw_in m_1097 rfl), (gw_in m_71 rfl), ⟨(gw_in m_1096 rfl), (gw_in m_34 rfl)⟩, by decide +kernel, by decide +kernel, by decide +kernel⟩
theorem ckX9_fails : ckV yX9_fails cX9_fails 1 (some .int) 0 := ⟨(gw_in m_1114 rfl), (gw_in m_71 rfl), ⟨(gw_in m_1113 rfl), (gw_in m_38 rfl)⟩, by decide +kernel, by decide +kernel, by decide +kernel⟩
theorem ckX9_number : ckV yX9_number cX9_number 4 (some .int) 2 := ⟨(gw_in m_1110 rfl), (gw_in m_71 rfl), ⟨(gw_in m_1109 rfl), (gw_in m_37 rfl)⟩, by decide +kernel, by decide +kernel, by decide +kernel⟩
theorem ckX9_ends : ckV yX9_ends cX9_ends 1 (some .boolean) 0 := ⟨(gw_in m_1118 rfl), (gw_in m_71 rfl), ⟨(gw_in m_1117 rfl), (gw_in m_39 rfl)⟩, by decide +kernel, by decide +kernel, by decide +kernel⟩
/-- where the reference stands in a text: readAt, tokenAt, tokenIs, faultAt -/
abbrev M4 : Type := Nat × Nat × Int32 × Int32
def mT (g : gG) (o : Nat → Nat) (ab be : Int64) (lm : Nat) (z : M4) (um ua : Nat) (hh : Int64) : va_W := mO g o ab be lm z.1 z.2.1 z.2.2.1 z.2.2.2 um ua hh
theorem mT_adr {g : gG} {o : Nat → Nat} {ab be ab' be' : Int64} {lm lm' : Nat} {z z' : M4} {um ua um' ua' : Nat} {hh hh' : Int64} : (mT g o ab be lm z um ua hh).map Prod.fst = (mT g o ab' be' lm' z' um' ua' hh').map Prod.fst := rfl
def wdM (tx : Nat → Int32) (s : Nat) : Nat → Int32
  | 0 => 0
  | n + 1 => if n < 6 then 27 * wdM tx s n + tx (s + n) - 96 else 0
def nxM (tx : Nat → Int32) (N ra : Nat) : Nat × Nat × Int32 :=
  if skF (fun k => wth (tx k) 32 32) N ra = N then (skF (fun k => wth (tx k) 32 32) N ra, skF (fun k => wth (tx k) 32 32) N ra, -1)
  else if wth (tx (skF (fun k => wth (tx k) 32 32) N ra)) 97 122 = true then (skF (fun k => wth (tx k) 97 122) N (skF (fun k => wth (tx k) 32 32) N ra), skF (fun k => wth (tx k) 32 32) N ra, if 6 < skF (fun k => wth (tx k) 97 122) N (skF (fun k => wth (tx k) 32 32) N ra) - skF (fun k => wth (tx k) 32 32) N ra then 0 else wdM tx (skF (fun k => wth (tx k) 32 32) N ra) (skF (fun k => wth (tx k) 97 122) N (skF (fun k => wth (tx k) 32 32) N ra) - skF (fun k => wth (tx k) 32 32) N ra))
  else if wth (tx (skF (fun k => wth (tx k) 32 32) N ra)) 48 57 = true then (skF (fun k => wth (tx k) 48 57) N (skF (fun k => wth (tx k) 32 32) N ra), skF (fun k => wth (tx k) 32 32) N ra, -2)
  else (skF (fun k => wth (tx k) 32 32) N ra + 1, skF (fun k => wth (tx k) 32 32) N ra, if tx (skF (fun k => wth (tx k) 32 32) N ra) = 59 then -3 else -4)
def nxZ (tx : Nat → Int32) (N : Nat) (z : M4) : M4 := ((nxM tx N z.1).1, (nxM tx N z.1).2.1, (nxM tx N z.1).2.2, z.2.2.2)
def flZ (z : M4) : M4 := (z.1, z.2.1, z.2.2.1, nI z.2.1)
def nmV (tx : Nat → Int32) (w : M4) : Int32 := if w.1 - w.2.1 = 2 then 10 * (tx w.2.1 - 48) + tx (w.2.1 + 1) - 48 else tx w.2.1 - 48
def nmB (tx : Nat → Int32) (N : Nat) (u v : Int32) (z : M4) : Bool := decide ((nxZ tx N z).2.2.1 = -2) && decide ((nxZ tx N z).1 - (nxZ tx N z).2.1 ≤ 2) && wth (nmV tx (nxZ tx N z)) u v
def nmZ (tx : Nat → Int32) (N : Nat) (u v : Int32) (z : M4) : M4 := if nmB tx N u v z = true then nxZ tx N z else flZ (nxZ tx N z)
def nmX (tx : Nat → Int32) (N : Nat) (u v : Int32) (z : M4) : Int32 := if nmB tx N u v z = true then nmV tx (nxZ tx N z) else -1
def enB (tx : Nat → Int32) (N : Nat) (z : M4) : Bool := decide ((nxZ tx N z).2.2.1 = -3)
def enZ (tx : Nat → Int32) (N : Nat) (z : M4) : M4 := if enB tx N z = true then nxZ tx N z else flZ (nxZ tx N z)
theorem scn_all {p : Nat → Bool} {N : Nat} : ∀ {m s k : Nat}, s ≤ k → k < scn p N m s → p k = true
  | 0, s, k, h1, h2 => absurd (show k < s from h2) (by omega)
  | m + 1, s, k, h1, h2 => by
    unfold scn at h2
    by_cases h : s < N ∧ p s = true
    · rw [if_pos h] at h2
      by_cases e : k = s
      · rw [e]; exact h.2
      · exact scn_all (m := m) (s := s + 1) (by omega) h2
    · rw [if_neg h] at h2; omega
theorem skF_all {p : Nat → Bool} {N s k : Nat} (h1 : s ≤ k) (h2 : k < skF p N s) : p k = true := scn_all h1 h2
theorem skF_gt {p : Nat → Bool} {N s : Nat} (h : s < N) (hp : p s = true) : s < skF p N s := by
  rw [skF_go h hp]; exact Nat.lt_of_lt_of_le (Nat.lt_succ_self s) skF_ge
theorem wd_nn {tx : Nat → Int32} {s : Nat} : ∀ n, n ≤ 6 → (∀ k, k < n → wth (tx (s + k)) 97 122 = true) → 0 ≤ (wdM tx s n).toInt ∧ (wdM tx s n).toInt < 27 ^ n
  | 0, _, _ => ⟨Int.le_refl 0, by show (0 : Int32).toInt < 27 ^ 0; decide⟩
  | n + 1, hn, h => by
    obtain ⟨h1, h2⟩ := wd_nn n (by omega) (fun k hk => h k (by omega))
    have h3 := h n (by omega)
    rw [wth_ti, show (97 : Int32).toInt = 97 from rfl, show (122 : Int32).toInt = 122 from rfl] at h3
    have h4 : (27 : Int) ^ n ≤ 27 ^ 5 := by
      match n, hn with
      | 0, _ => decide | 1, _ => decide | 2, _ => decide | 3, _ => decide | 4, _ => decide | 5, _ => decide
    have h5 : (27 : Int) ^ (n + 1) = 27 ^ n * 27 := Int.pow_succ _ _
    have h6 : (27 : Int) ^ 5 = 14348907 := by decide
    have e1 : (27 * wdM tx s n).toInt = 27 * (wdM tx s n).toInt := by
      rw [ti_mul (by rw [show (27 : Int32).toInt = 27 from rfl]; omega) (by rw [show (27 : Int32).toInt = 27 from rfl]; omega)]; rfl
    have e2 : (27 * wdM tx s n + tx (s + n)).toInt = 27 * (wdM tx s n).toInt + (tx (s + n)).toInt := by
      rw [ti_add (by rw [e1]; omega) (by rw [e1]; omega), e1]
    have e3 : (27 * wdM tx s n + tx (s + n) - 96).toInt = 27 * (wdM tx s n).toInt + (tx (s + n)).toInt - 96 := by
      rw [ti_sub (by rw [e2, show (96 : Int32).toInt = 96 from rfl]; omega) (by rw [e2, show (96 : Int32).toInt = 96 from rfl]; omega), e2]; rfl
    have e4 : wdM tx s (n + 1) = 27 * wdM tx s n + tx (s + n) - 96 := if_pos (by omega)
    rw [e4, e3]
    omega
theorem nx_wd {tx : Nat → Int32} {N s : Nat} (h : ¬ 6 < skF (fun k => wth (tx k) 97 122) N s - s) : 0 ≤ (wdM tx s (skF (fun k => wth (tx k) 97 122) N s - s)).toInt :=
  (wd_nn _ (by omega) (fun k hk => skF_all (p := fun k => wth (tx k) 97 122) (N := N) (s := s) (by omega) (by omega))).1
theorem nx_fig {tx : Nat → Int32} {N : Nat} {z : M4} (hra : z.1 ≤ N) (h : (nxZ tx N z).2.2.1 = -2) : (nxZ tx N z).2.1 < (nxZ tx N z).1 ∧ (nxZ tx N z).1 ≤ N := by
  have hs := skF_le (p := fun k => wth (tx k) 32 32) hra
  have h' : (nxM tx N z.1).2.2 = -2 := h
  show (nxM tx N z.1).2.1 < (nxM tx N z.1).1 ∧ (nxM tx N z.1).1 ≤ N
  unfold nxM at h' ⊢
  by_cases c1 : skF (fun k => wth (tx k) 32 32) N z.1 = N
  · rw [if_pos c1] at h'; exact absurd (show (-1 : Int32) = -2 from h') (by decide)
  · rw [if_neg c1] at h' ⊢
    by_cases c2 : wth (tx (skF (fun k => wth (tx k) 32 32) N z.1)) 97 122 = true
    · rw [if_pos c2] at h'
      by_cases c6 : 6 < skF (fun k => wth (tx k) 97 122) N (skF (fun k => wth (tx k) 32 32) N z.1) - skF (fun k => wth (tx k) 32 32) N z.1
      · exact absurd (show (0 : Int32) = -2 from (if_pos c6).symm.trans h') (by decide)
      · have h9 : wdM tx (skF (fun k => wth (tx k) 32 32) N z.1) (skF (fun k => wth (tx k) 97 122) N (skF (fun k => wth (tx k) 32 32) N z.1) - skF (fun k => wth (tx k) 32 32) N z.1) = -2 := (if_neg c6).symm.trans h'
        have h8 := nx_wd c6
        rw [h9] at h8
        exact absurd h8 (by decide)
    · rw [if_neg c2] at h' ⊢
      by_cases c3 : wth (tx (skF (fun k => wth (tx k) 32 32) N z.1)) 48 57 = true
      · rw [if_pos c3]
        exact ⟨skF_gt (p := fun k => wth (tx k) 48 57) (N := N) (s := skF (fun k => wth (tx k) 32 32) N z.1) (by omega) c3, skF_le hs⟩
      · rw [if_neg c3] at h'
        by_cases c4 : tx (skF (fun k => wth (tx k) 32 32) N z.1) = 59
        · exact absurd (show (-3 : Int32) = -2 from (if_pos c4).symm.trans h') (by decide)
        · exact absurd (show (-4 : Int32) = -2 from (if_neg c4).symm.trans h') (by decide)
set_option maxHeartbeats 4000000 in
set_option maxRecDepth 100000 in
theorem kX9_isHere (l : Launch) (g : gG) (o : Nat → Nat) (ab be : Int64) (lm ra ta : Nat) (ti fa : Int32) (um ua : Nat) (hh : Int64) (tx : Nat → Int32) (lo hi : Int32) (hN : lm ≤ 150) (hra : ra ≤ lm) : Met l yX9_isHere (.code yX9_isHere cX9_isHere 3 (some .boolean) :: gw) (rmN 1) (va_Pc [.ref (o 0), .int (lo), .int (hi)] (roPre g (mO g o ab be lm ra ta ti fa um ua hh ++ (aW g (o 6) 150 tx ++ [])))) (vp_Si (fun v => v = (b2i (decide (ra < lm) && wth (tx ra) lo hi)))) 0 0 (fun _ => False) := by
  refine met_start (by decide) (Nat.le_of_ble_eq_true rfl) ?_
  intro pp ee ss mm bl mt cd hC hpre ls hl
  obtain ⟨⟨hx, hb, hml, hown, hts⟩, hr, hlk, hnm⟩ := id hC
  have hl : lv_has ls 3 [(0, .ref (o 0)), (1, .int (lo)), (2, .int (hi))] := hl
  obtain ⟨hP, hK⟩ := hpre
  refine lv_aload_n hx hb dX9_isHere_0 rfl (lv_at hl 0 rfl) ?_
  refine kget hC.1 hK (kP_app.mp hP).1 0 rfl rfl in_9 9 (by decide) (gw_in m_969 rfl) rfl dX9_isHere_1 ?_
  refine lv_aload_n hx hb dX9_isHere_4 rfl (lv_at hl 0 rfl) ?_
  refine kget hC.1 hK (kP_app.mp hP).1 0 rfl rfl in_9 7 (by decide) (gw_in m_967 rfl) rfl dX9_isHere_5 ?_
  refine lv_icmp_ge (tgt := 32) hx hb dX9_isHere_8 (by decide) (fun c1 => ?_) (fun c1 => ?_)
  · skip
    have c1' := Int32.not_lt.mpr c1
    have hlt : ¬ ra < lm := by rw [nI_leI (by omega) (by omega)] at c1; omega
    refine lv_iconst (v := 0) hx hb dX9_isHere_32 rfl ?_
    exact ret_roz hx hb hr hlk rfl (by simp [b2i, hlt]) dX9_isHere_33
  · skip
    have c1' := Int32.not_le.mp c1
    have hlt : ra < lm := by rw [nI_leI (by omega) (by omega)] at c1; omega
    refine lv_aload_n hx hb dX9_isHere_11 rfl (lv_at hl 0 rfl) ?_
    refine kget hC.1 hK (kP_app.mp hP).1 0 rfl rfl in_9 8 (by decide) (gw_in m_968 rfl) rfl dX9_isHere_12 ?_
    refine lv_aload_n hx hb dX9_isHere_15 rfl (lv_at hl 0 rfl) ?_
    refine kget hC.1 hK (kP_app.mp hP).1 0 rfl rfl in_9 9 (by decide) (gw_in m_969 rfl) rfl dX9_isHere_16 ?_
    refine kald (v := tx ra) hC.1 hK (kP_app.mp (kP_app.mp hP).2).1 0 rfl (vp_in_nI (by omega) (by omega)) (by rw [cl_nI (by omega)]) dX9_isHere_19 ?_
    refine lv_iload_n hx hb dX9_isHere_20 rfl (lv_at hl 1 rfl) ?_
    refine lv_iload_n hx hb dX9_isHere_21 rfl (lv_at hl 2 rfl) ?_
    refine ro_i (run_S (As := [.int (tx ra), .int (lo), .int (hi)]) (rest := []) hC.1 ckX9_in (kX9_in l (tx ra) lo hi) (gw_in m_1038 rfl) (fb_nil _) (fun _ _ _ => trivial) ⟨rfl, rfl, Nat.le_of_ble_eq_true rfl, Nat.le_of_ble_eq_true rfl⟩ rfl hl.1 rfl (Nat.le_of_ble_eq_true rfl) dX9_isHere_22 ⟨Nat.le_of_ble_eq_true rfl, Nat.le_of_ble_eq_true rfl⟩) ?_
    refine lv_if_eq (tgt := 32) hx hb dX9_isHere_25 (by decide) (fun c2 => ?_) (fun c2 => ?_)
    · skip
      have c2 := b2i_0 c2
      refine lv_iconst (v := 0) hx hb dX9_isHere_32 rfl ?_
      exact ret_roz hx hb hr hlk rfl (by simp [b2i, hlt, c2]) dX9_isHere_33
    · skip
      have c2 := b2i_1 c2
      refine lv_iconst (v := 1) hx hb dX9_isHere_28 rfl ?_
      refine lv_goto (tgt := 33) hx hb dX9_isHere_29 (by decide) ?_
      exact ret_roz hx hb hr hlk rfl (by simp [b2i, hlt, c2]) dX9_isHere_33
set_option maxHeartbeats 4000000 in
set_option maxRecDepth 100000 in
theorem kX9_next (l : Launch) (g : gG) (o : Nat → Nat) (ab be : Int64) (lm : Nat) (z : M4) (um ua : Nat) (hh : Int64) (tx : Nat → Int32)  (hN : lm ≤ 150) (hra : z.1 ≤ lm) : Met l yX9_next (.code yX9_next cX9_next 1 none :: gw) (rmN 2) (va_Pc [.ref (o 0)] (rwPre g (mT g o ab be lm z um ua hh ++ (aW g (o 6) 150 tx ++ [])))) (rwQv g (mT g o ab be lm z um ua hh ++ (aW g (o 6) 150 tx ++ [])) (mT g o ab be lm (nxZ tx lm z) um ua hh ++ (aW g (o 6) 150 tx ++ []))) 0 0 (dm (mT g o ab be lm z um ua hh ++ (aW g (o 6) 150 tx ++ []))) := by
  refine met_start (by decide) (Nat.le_of_ble_eq_true rfl) ?_
  intro pp ee ss mm bl mt cd hC hpre ls hl
  obtain ⟨⟨hx, hb, hml, hown, hts⟩, hr, hlk, hnm⟩ := id hC
  have hl : lv_has ls 1 [(0, .ref (o 0))] := hl
  obtain ⟨hP, hK, hD⟩ := hpre
  have hS : va_S (dm (mT g o ab be lm z um ua hh ++ (aW g (o 6) 150 tx ++ []))) ss.heap ss.heap [] := va_S.rf
  have hD := vD_self hD
  have hP : kP g (mO g o ab be lm z.1 z.2.1 z.2.2.1 z.2.2.2 um ua hh ++ (aW g (o 6) 150 tx ++ [])) _ := hP
  have hD : va_D _ (mO g o ab be lm z.1 z.2.1 z.2.2.1 z.2.2.2 um ua hh ++ (aW g (o 6) 150 tx ++ [])) := hD
  have cut0 : ∀ kk : Nat, ∀ (b : Nat), lm + 1 - b < kk → (hbN : b ≤ lm) → (heb : skF (fun k => wth (tx k) 32 32) lm b = skF (fun k => wth (tx k) 32 32) lm z.1) → ∀ (H : Heap) (locs : List Loc), kP g (mO g o ab be lm b z.2.1 z.2.2.1 z.2.2.2 um ua hh ++ (aW g (o 6) 150 tx ++ [])) H → va_D (dm (mT g o ab be lm z um ua hh ++ (aW g (o 6) 150 tx ++ []))) (mO g o ab be lm b z.2.1 z.2.2.1 z.2.2.2 um ua hh ++ (aW g (o 6) 150 tx ++ [])) → va_S (dm (mT g o ab be lm z um ua hh ++ (aW g (o 6) 150 tx ++ []))) ss.heap H locs → ∀ (ls : Array Slot), lv_has ls 1 [(0, .ref (o 0))] → W pp l ee (rmN 2) ss mm ([.ref (o 0)] : List Value).toArray bl mt cd H locs 0 0 (MQ bl (rwQv g (mT g o ab be lm z um ua hh ++ (aW g (o 6) 150 tx ++ [])) (mT g o ab be lm (nxZ tx lm z) um ua hh ++ (aW g (o 6) 150 tx ++ []))) ([.ref (o 0)] : List Value).toArray ss 0 0 (dm (mT g o ab be lm z um ua hh ++ (aW g (o 6) 150 tx ++ [])))) (F0 mm 0 ls []) := by
    intro kk
    induction kk with
    | zero => intro b hmu; exact absurd hmu (Nat.not_lt_zero _)
    | succ kk ih0 =>
      intro b hmu hbN heb H locs hP hD hS ls hl
      refine lv_aload_n hx hb dX9_next_0 rfl (lv_at hl 0 rfl) ?_
      refine lv_bipush (v := 32) hx hb dX9_next_1 rfl ?_
      refine lv_bipush (v := 32) hx hb dX9_next_3 rfl ?_
      refine ro_i (run_V (As := [.int (32), .int (32)]) (rest := []) hC.1 ckX9_isHere (kX9_isHere l g o ab be lm b z.2.1 z.2.2.1 z.2.2.2 um ua hh tx 32 32 hN (by omega)) (gw_in m_1098 rfl) (fb_ro _ _ _) (va_recv hK.1 (kP_app.mp hP).1 (q0 := 0) rfl rfl) (fun U hU hW => ⟨by rw [hU]; exact (kP_app.mpr ⟨(kP_app.mp hP).1, (kP_app.mpr ⟨(kP_app.mp (kP_app.mp hP).2).1, (kP_mem.mpr (fun _ h => absurd h List.not_mem_nil))⟩)⟩), kK_warm hW hK⟩) ⟨rfl, rfl, Nat.le_of_ble_eq_true rfl, Nat.le_of_ble_eq_true rfl⟩ rfl hl.1 rfl (Nat.le_of_ble_eq_true rfl) dX9_next_5 ⟨Nat.le_of_ble_eq_true rfl, Nat.le_of_ble_eq_true rfl⟩) ?_
      refine lv_if_eq (tgt := 24) hx hb dX9_next_8 (by decide) (fun c1 => ?_) (fun c1 => ?_)
      · skip
        have c1 := b2i_0 c1
        have hnob : ¬ (b < lm ∧ (fun k => wth (tx k) 32 32) b = true) := by intro h9; rw [show (decide (b < lm) && (fun k => wth (tx k) 32 32) b) = true from by rw [decide_eq_true h9.1]; exact h9.2] at c1; exact absurd c1 (by decide)
        have hse : skF (fun k => wth (tx k) 32 32) lm z.1 = b := heb.symm.trans (skF_stop hnob)
        refine lv_aload_n hx hb dX9_next_24 rfl (lv_at hl 0 rfl) ?_
        refine lv_aload_n hx hb dX9_next_25 rfl (lv_at hl 0 rfl) ?_
        refine kget hC.1 hK (kP_app.mp hP).1 0 rfl rfl in_9 9 (by decide) (gw_in m_969 rfl) rfl dX9_next_26 ?_
        refine kput (B' := mO g o ab be lm b b z.2.2.1 z.2.2.2 um ua hh) hC.1 hK hP hD hS 0 rfl rfl in_9 tyX9 tyX9_ok nmX9 10 (by decide) (gw_in m_970 rfl) rfl (ty := .int) (by decide +kernel) rfl rfl (Nat.le_of_ble_eq_true rfl) (fun _ h => h) mO_adr dX9_next_29 (fun H locs hP hD hS => ?_)
        refine lv_aload_n hx hb dX9_next_32 rfl (lv_at hl 0 rfl) ?_
        refine kget hC.1 hK (kP_app.mp hP).1 0 rfl rfl in_9 9 (by decide) (gw_in m_969 rfl) rfl dX9_next_33 ?_
        refine lv_aload_n hx hb dX9_next_36 rfl (lv_at hl 0 rfl) ?_
        refine kget hC.1 hK (kP_app.mp hP).1 0 rfl rfl in_9 7 (by decide) (gw_in m_967 rfl) rfl dX9_next_37 ?_
        refine lv_icmp_ne (tgt := 51) hx hb dX9_next_40 (by decide) (fun c2 => ?_) (fun c2 => ?_)
        · skip
          have hbl : ¬ b = lm := fun e9 => c2 (by rw [e9])
          have hbl2 : b < lm := by omega
          refine lv_aload_n hx hb dX9_next_51 rfl (lv_at hl 0 rfl) ?_
          refine lv_bipush (v := 97) hx hb dX9_next_52 rfl ?_
          refine lv_bipush (v := 122) hx hb dX9_next_54 rfl ?_
          refine ro_i (run_V (As := [.int (97), .int (122)]) (rest := []) hC.1 ckX9_isHere (kX9_isHere l g o ab be lm b b z.2.2.1 z.2.2.2 um ua hh tx 97 122 hN (by omega)) (gw_in m_1098 rfl) (fb_ro _ _ _) (va_recv hK.1 (kP_app.mp hP).1 (q0 := 0) rfl rfl) (fun U hU hW => ⟨by rw [hU]; exact (kP_app.mpr ⟨(kP_app.mp hP).1, (kP_app.mpr ⟨(kP_app.mp (kP_app.mp hP).2).1, (kP_mem.mpr (fun _ h => absurd h List.not_mem_nil))⟩)⟩), kK_warm hW hK⟩) ⟨rfl, rfl, Nat.le_of_ble_eq_true rfl, Nat.le_of_ble_eq_true rfl⟩ rfl hl.1 rfl (Nat.le_of_ble_eq_true rfl) dX9_next_56 ⟨Nat.le_of_ble_eq_true rfl, Nat.le_of_ble_eq_true rfl⟩) ?_
          refine lv_if_eq (tgt := 162) hx hb dX9_next_59 (by decide) (fun c3 => ?_) (fun c3 => ?_)
          · skip
            have c3 := b2i_0 c3
            have hlet : wth (tx b) 97 122 = false := by have h9 := c3; rw [decide_eq_true hbl2, Bool.true_and] at h9; exact h9
            refine lv_aload_n hx hb dX9_next_162 rfl (lv_at hl 0 rfl) ?_
            refine lv_bipush (v := 48) hx hb dX9_next_163 rfl ?_
            refine lv_bipush (v := 57) hx hb dX9_next_165 rfl ?_
            refine ro_i (run_V (As := [.int (48), .int (57)]) (rest := []) hC.1 ckX9_isHere (kX9_isHere l g o ab be lm b b z.2.2.1 z.2.2.2 um ua hh tx 48 57 hN (by omega)) (gw_in m_1098 rfl) (fb_ro _ _ _) (va_recv hK.1 (kP_app.mp hP).1 (q0 := 0) rfl rfl) (fun U hU hW => ⟨by rw [hU]; exact (kP_app.mpr ⟨(kP_app.mp hP).1, (kP_app.mpr ⟨(kP_app.mp (kP_app.mp hP).2).1, (kP_mem.mpr (fun _ h => absurd h List.not_mem_nil))⟩)⟩), kK_warm hW hK⟩) ⟨rfl, rfl, Nat.le_of_ble_eq_true rfl, Nat.le_of_ble_eq_true rfl⟩ rfl hl.1 rfl (Nat.le_of_ble_eq_true rfl) dX9_next_167 ⟨Nat.le_of_ble_eq_true rfl, Nat.le_of_ble_eq_true rfl⟩) ?_
            refine lv_if_eq (tgt := 203) hx hb dX9_next_170 (by decide) (fun c4 => ?_) (fun c4 => ?_)
            · skip
              have c4 := b2i_0 c4
              have hfig : wth (tx b) 48 57 = false := by have h9 := c4; rw [decide_eq_true hbl2, Bool.true_and] at h9; exact h9
              refine lv_aload_n hx hb dX9_next_203 rfl (lv_at hl 0 rfl) ?_
              refine lv_aload_n hx hb dX9_next_204 rfl (lv_at hl 0 rfl) ?_
              refine kget hC.1 hK (kP_app.mp hP).1 0 rfl rfl in_9 8 (by decide) (gw_in m_968 rfl) rfl dX9_next_205 ?_
              refine lv_aload_n hx hb dX9_next_208 rfl (lv_at hl 0 rfl) ?_
              refine kget hC.1 hK (kP_app.mp hP).1 0 rfl rfl in_9 9 (by decide) (gw_in m_969 rfl) rfl dX9_next_209 ?_
              refine kald (v := tx b) hC.1 hK (kP_app.mp (kP_app.mp hP).2).1 0 rfl (vp_in_nI (by omega) (by omega)) (by rw [cl_nI (by omega)]) dX9_next_212 ?_
              refine lv_bipush (v := 59) hx hb dX9_next_213 rfl ?_
              refine lv_icmp_ne (tgt := 223) hx hb dX9_next_215 (by decide) (fun c5 => ?_) (fun c5 => ?_)
              · skip
                refine lv_bipush (v := -4) hx hb dX9_next_223 rfl ?_
                refine kput (B' := mO g o ab be lm b b (-4) z.2.2.2 um ua hh) hC.1 hK hP hD hS 0 rfl rfl in_9 tyX9 tyX9_ok nmX9 11 (by decide) (gw_in m_971 rfl) rfl (ty := .int) (by decide +kernel) rfl rfl (Nat.le_of_ble_eq_true rfl) (fun _ h => h) mO_adr dX9_next_225 (fun H locs hP hD hS => ?_)
                refine lv_aload_n hx hb dX9_next_228 rfl (lv_at hl 0 rfl) ?_
                refine lv_dup hx hb dX9_next_229 rfl ?_
                refine kget hC.1 hK (kP_app.mp hP).1 0 rfl rfl in_9 9 (by decide) (gw_in m_969 rfl) rfl dX9_next_230 ?_
                refine lv_iconst (v := 1) hx hb dX9_next_233 rfl ?_
                refine lv_iadd hx hb dX9_next_234 ?_
                refine top_i (x := (nI b) + 1) (y := nI (b + 1)) (nI_1 b) ?_
                refine kput (B' := mO g o ab be lm (b + 1) b (-4) z.2.2.2 um ua hh) hC.1 hK hP hD hS 0 rfl rfl in_9 tyX9 tyX9_ok nmX9 9 (by decide) (gw_in m_969 rfl) rfl (ty := .int) (by decide +kernel) rfl rfl (Nat.le_of_ble_eq_true rfl) (fun _ h => h) mO_adr dX9_next_235 (fun H locs hP hD hS => ?_)
                exact ret_rwv hx hb hr hlk (kP_eq (by show mO g o ab be lm _ _ _ _ um ua hh ++ _ = _; unfold nxZ nxM; rw [hse, if_neg hbl, if_neg (by rw [hlet]; decide), if_neg (by rw [hfig]; decide), if_neg c5]; try rfl) hP) hS dX9_next_238
              · skip
                refine lv_bipush (v := -3) hx hb dX9_next_218 rfl ?_
                refine lv_goto (tgt := 225) hx hb dX9_next_220 (by decide) ?_
                refine kput (B' := mO g o ab be lm b b (-3) z.2.2.2 um ua hh) hC.1 hK hP hD hS 0 rfl rfl in_9 tyX9 tyX9_ok nmX9 11 (by decide) (gw_in m_971 rfl) rfl (ty := .int) (by decide +kernel) rfl rfl (Nat.le_of_ble_eq_true rfl) (fun _ h => h) mO_adr dX9_next_225 (fun H locs hP hD hS => ?_)
                refine lv_aload_n hx hb dX9_next_228 rfl (lv_at hl 0 rfl) ?_
                refine lv_dup hx hb dX9_next_229 rfl ?_
                refine kget hC.1 hK (kP_app.mp hP).1 0 rfl rfl in_9 9 (by decide) (gw_in m_969 rfl) rfl dX9_next_230 ?_
                refine lv_iconst (v := 1) hx hb dX9_next_233 rfl ?_
                refine lv_iadd hx hb dX9_next_234 ?_
                refine top_i (x := (nI b) + 1) (y := nI (b + 1)) (nI_1 b) ?_
                refine kput (B' := mO g o ab be lm (b + 1) b (-3) z.2.2.2 um ua hh) hC.1 hK hP hD hS 0 rfl rfl in_9 tyX9 tyX9_ok nmX9 9 (by decide) (gw_in m_969 rfl) rfl (ty := .int) (by decide +kernel) rfl rfl (Nat.le_of_ble_eq_true rfl) (fun _ h => h) mO_adr dX9_next_235 (fun H locs hP hD hS => ?_)
                exact ret_rwv hx hb hr hlk (kP_eq (by show mO g o ab be lm _ _ _ _ um ua hh ++ _ = _; unfold nxZ nxM; rw [hse, if_neg hbl, if_neg (by rw [hlet]; decide), if_neg (by rw [hfig]; decide), if_pos c5]; try rfl) hP) hS dX9_next_238
            · skip
              have c4 := b2i_1 c4
              have hfig : wth (tx b) 48 57 = true := by have h9 := c4; rw [decide_eq_true hbl2, Bool.true_and] at h9; exact h9
              refine lv_aload_n hx hb dX9_next_173 rfl (lv_at hl 0 rfl) ?_
              refine lv_bipush (v := -2) hx hb dX9_next_174 rfl ?_
              refine kput (B' := mO g o ab be lm b b (-2) z.2.2.2 um ua hh) hC.1 hK hP hD hS 0 rfl rfl in_9 tyX9 tyX9_ok nmX9 11 (by decide) (gw_in m_971 rfl) rfl (ty := .int) (by decide +kernel) rfl rfl (Nat.le_of_ble_eq_true rfl) (fun _ h => h) mO_adr dX9_next_176 (fun H locs hP hD hS => ?_)
              have cut179 : ∀ kk : Nat, ∀ (e : Nat), lm + 1 - e < kk → (heN : e ≤ lm) → (hee : skF (fun k => wth (tx k) 48 57) lm e = skF (fun k => wth (tx k) 48 57) lm b) → (hbe : b ≤ e) → ∀ (H : Heap) (locs : List Loc), kP g (mO g o ab be lm e b (-2) z.2.2.2 um ua hh ++ (aW g (o 6) 150 tx ++ [])) H → va_D (dm (mT g o ab be lm z um ua hh ++ (aW g (o 6) 150 tx ++ []))) (mO g o ab be lm e b (-2) z.2.2.2 um ua hh ++ (aW g (o 6) 150 tx ++ [])) → va_S (dm (mT g o ab be lm z um ua hh ++ (aW g (o 6) 150 tx ++ []))) ss.heap H locs → ∀ (ls : Array Slot), lv_has ls 1 [(0, .ref (o 0))] → W pp l ee (rmN 2) ss mm ([.ref (o 0)] : List Value).toArray bl mt cd H locs 0 0 (MQ bl (rwQv g (mT g o ab be lm z um ua hh ++ (aW g (o 6) 150 tx ++ [])) (mT g o ab be lm (nxZ tx lm z) um ua hh ++ (aW g (o 6) 150 tx ++ []))) ([.ref (o 0)] : List Value).toArray ss 0 0 (dm (mT g o ab be lm z um ua hh ++ (aW g (o 6) 150 tx ++ [])))) (F0 mm 179 ls []) := by
                intro kk
                induction kk with
                | zero => intro e hmu; exact absurd hmu (Nat.not_lt_zero _)
                | succ kk ih179 =>
                  intro e hmu heN hee hbe H locs hP hD hS ls hl
                  refine lv_aload_n hx hb dX9_next_179 rfl (lv_at hl 0 rfl) ?_
                  refine lv_bipush (v := 48) hx hb dX9_next_180 rfl ?_
                  refine lv_bipush (v := 57) hx hb dX9_next_182 rfl ?_
                  refine ro_i (run_V (As := [.int (48), .int (57)]) (rest := []) hC.1 ckX9_isHere (kX9_isHere l g o ab be lm e b (-2) z.2.2.2 um ua hh tx 48 57 hN (by omega)) (gw_in m_1098 rfl) (fb_ro _ _ _) (va_recv hK.1 (kP_app.mp hP).1 (q0 := 0) rfl rfl) (fun U hU hW => ⟨by rw [hU]; exact (kP_app.mpr ⟨(kP_app.mp hP).1, (kP_app.mpr ⟨(kP_app.mp (kP_app.mp hP).2).1, (kP_mem.mpr (fun _ h => absurd h List.not_mem_nil))⟩)⟩), kK_warm hW hK⟩) ⟨rfl, rfl, Nat.le_of_ble_eq_true rfl, Nat.le_of_ble_eq_true rfl⟩ rfl hl.1 rfl (Nat.le_of_ble_eq_true rfl) dX9_next_184 ⟨Nat.le_of_ble_eq_true rfl, Nat.le_of_ble_eq_true rfl⟩) ?_
                  refine lv_if_eq (tgt := 238) hx hb dX9_next_187 (by decide) (fun c6 => ?_) (fun c6 => ?_)
                  · skip
                    have c6 := b2i_0 c6
                    have hnoe : ¬ (e < lm ∧ (fun k => wth (tx k) 48 57) e = true) := by intro h9; rw [show (decide (e < lm) && (fun k => wth (tx k) 48 57) e) = true from by rw [decide_eq_true h9.1]; exact h9.2] at c6; exact absurd c6 (by decide)
                    have hse3 : skF (fun k => wth (tx k) 48 57) lm b = e := hee.symm.trans (skF_stop hnoe)
                    exact ret_rwv hx hb hr hlk (kP_eq (by show mO g o ab be lm _ _ _ _ um ua hh ++ _ = _; unfold nxZ nxM; rw [hse, if_neg hbl, if_neg (by rw [hlet]; decide), if_pos hfig, hse3]; try rfl) hP) hS dX9_next_238
                  · skip
                    have c6 := b2i_1 c6
                    have hine : e < lm ∧ (fun k => wth (tx k) 48 57) e = true := by have h9 := c6; simp only [Bool.and_eq_true, decide_eq_true_eq] at h9; exact h9
                    refine lv_aload_n hx hb dX9_next_190 rfl (lv_at hl 0 rfl) ?_
                    refine lv_dup hx hb dX9_next_191 rfl ?_
                    refine kget hC.1 hK (kP_app.mp hP).1 0 rfl rfl in_9 9 (by decide) (gw_in m_969 rfl) rfl dX9_next_192 ?_
                    refine lv_iconst (v := 1) hx hb dX9_next_195 rfl ?_
                    refine lv_iadd hx hb dX9_next_196 ?_
                    refine top_i (x := (nI e) + 1) (y := nI (e + 1)) (nI_1 e) ?_
                    refine kput (B' := mO g o ab be lm (e + 1) b (-2) z.2.2.2 um ua hh) hC.1 hK hP hD hS 0 rfl rfl in_9 tyX9 tyX9_ok nmX9 9 (by decide) (gw_in m_969 rfl) rfl (ty := .int) (by decide +kernel) rfl rfl (Nat.le_of_ble_eq_true rfl) (fun _ h => h) mO_adr dX9_next_197 (fun H locs hP hD hS => ?_)
                    refine lv_goto (tgt := 179) hx hb dX9_next_200 (by decide) ?_
                    exact ih179 (e + 1) (by omega) (by omega) ((skF_go hine.1 hine.2).symm.trans hee) (by omega) _ _ hP hD hS _ (lv_sub hl [0] rfl)
              exact cut179 _ b (Nat.lt_succ_self _) (by omega) rfl (Nat.le_refl b) _ _ hP hD hS _ (lv_sub hl [0] rfl)
          · skip
            have c3 := b2i_1 c3
            have hlet : wth (tx b) 97 122 = true := by have h9 := c3; rw [decide_eq_true hbl2, Bool.true_and] at h9; exact h9
            refine lv_aload_n hx hb dX9_next_62 rfl (lv_at hl 0 rfl) ?_
            refine lv_iconst (v := 0) hx hb dX9_next_63 rfl ?_
            refine kput (B' := mO g o ab be lm b b 0 z.2.2.2 um ua hh) hC.1 hK hP hD hS 0 rfl rfl in_9 tyX9 tyX9_ok nmX9 11 (by decide) (gw_in m_971 rfl) rfl (ty := .int) (by decide +kernel) rfl rfl (Nat.le_of_ble_eq_true rfl) (fun _ h => h) mO_adr dX9_next_64 (fun H locs hP hD hS => ?_)
            have cut67 : ∀ kk : Nat, ∀ (e : Nat), lm + 1 - e < kk → (heN : e ≤ lm) → (hee : skF (fun k => wth (tx k) 97 122) lm e = skF (fun k => wth (tx k) 97 122) lm b) → (hbe : b ≤ e) → ∀ (H : Heap) (locs : List Loc), kP g (mO g o ab be lm e b (wdM tx b (e - b)) z.2.2.2 um ua hh ++ (aW g (o 6) 150 tx ++ [])) H → va_D (dm (mT g o ab be lm z um ua hh ++ (aW g (o 6) 150 tx ++ []))) (mO g o ab be lm e b (wdM tx b (e - b)) z.2.2.2 um ua hh ++ (aW g (o 6) 150 tx ++ [])) → va_S (dm (mT g o ab be lm z um ua hh ++ (aW g (o 6) 150 tx ++ []))) ss.heap H locs → ∀ (ls : Array Slot), lv_has ls 1 [(0, .ref (o 0))] → W pp l ee (rmN 2) ss mm ([.ref (o 0)] : List Value).toArray bl mt cd H locs 0 0 (MQ bl (rwQv g (mT g o ab be lm z um ua hh ++ (aW g (o 6) 150 tx ++ [])) (mT g o ab be lm (nxZ tx lm z) um ua hh ++ (aW g (o 6) 150 tx ++ []))) ([.ref (o 0)] : List Value).toArray ss 0 0 (dm (mT g o ab be lm z um ua hh ++ (aW g (o 6) 150 tx ++ [])))) (F0 mm 67 ls []) := by
              intro kk
              induction kk with
              | zero => intro e hmu; exact absurd hmu (Nat.not_lt_zero _)
              | succ kk ih67 =>
                intro e hmu heN hee hbe H locs hP hD hS ls hl
                refine lv_aload_n hx hb dX9_next_67 rfl (lv_at hl 0 rfl) ?_
                refine lv_bipush (v := 97) hx hb dX9_next_68 rfl ?_
                refine lv_bipush (v := 122) hx hb dX9_next_70 rfl ?_
                refine ro_i (run_V (As := [.int (97), .int (122)]) (rest := []) hC.1 ckX9_isHere (kX9_isHere l g o ab be lm e b (wdM tx b (e - b)) z.2.2.2 um ua hh tx 97 122 hN (by omega)) (gw_in m_1098 rfl) (fb_ro _ _ _) (va_recv hK.1 (kP_app.mp hP).1 (q0 := 0) rfl rfl) (fun U hU hW => ⟨by rw [hU]; exact (kP_app.mpr ⟨(kP_app.mp hP).1, (kP_app.mpr ⟨(kP_app.mp (kP_app.mp hP).2).1, (kP_mem.mpr (fun _ h => absurd h List.not_mem_nil))⟩)⟩), kK_warm hW hK⟩) ⟨rfl, rfl, Nat.le_of_ble_eq_true rfl, Nat.le_of_ble_eq_true rfl⟩ rfl hl.1 rfl (Nat.le_of_ble_eq_true rfl) dX9_next_72 ⟨Nat.le_of_ble_eq_true rfl, Nat.le_of_ble_eq_true rfl⟩) ?_
                refine lv_if_eq (tgt := 133) hx hb dX9_next_75 (by decide) (fun c7 => ?_) (fun c7 => ?_)
                · skip
                  have c7 := b2i_0 c7
                  have hnoe : ¬ (e < lm ∧ (fun k => wth (tx k) 97 122) e = true) := by intro h9; rw [show (decide (e < lm) && (fun k => wth (tx k) 97 122) e) = true from by rw [decide_eq_true h9.1]; exact h9.2] at c7; exact absurd c7 (by decide)
                  have hse2 : skF (fun k => wth (tx k) 97 122) lm b = e := hee.symm.trans (skF_stop hnoe)
                  refine lv_aload_n hx hb dX9_next_133 rfl (lv_at hl 0 rfl) ?_
                  refine lv_aload_n hx hb dX9_next_134 rfl (lv_at hl 0 rfl) ?_
                  refine kget hC.1 hK (kP_app.mp hP).1 0 rfl rfl in_9 9 (by decide) (gw_in m_969 rfl) rfl dX9_next_135 ?_
                  refine lv_aload_n hx hb dX9_next_138 rfl (lv_at hl 0 rfl) ?_
                  refine kget hC.1 hK (kP_app.mp hP).1 0 rfl rfl in_9 10 (by decide) (gw_in m_970 rfl) rfl dX9_next_139 ?_
                  refine lv_isub hx hb dX9_next_142 ?_
                  refine top_i (x := (nI e) - (nI b)) (y := nI (e - b)) (pk_sub hbe) ?_
                  refine lv_bipush (v := 6) hx hb dX9_next_143 rfl ?_
                  refine lv_icmp_le (tgt := 152) hx hb dX9_next_145 (by decide) (fun c8 => ?_) (fun c8 => ?_)
                  · skip
                    have c8' := Int32.not_lt.mpr c8
                    have h6f : ¬ 6 < e - b := by rw [show (6 : Int32) = nI 6 from rfl, nI_leI (by omega) (by omega)] at c8; omega
                    refine lv_aload_n hx hb dX9_next_152 rfl (lv_at hl 0 rfl) ?_
                    refine kget hC.1 hK (kP_app.mp hP).1 0 rfl rfl in_9 11 (by decide) (gw_in m_971 rfl) rfl dX9_next_153 ?_
                    refine kput (B' := mO g o ab be lm e b (wdM tx b (e - b)) z.2.2.2 um ua hh) hC.1 hK hP hD hS 0 rfl rfl in_9 tyX9 tyX9_ok nmX9 11 (by decide) (gw_in m_971 rfl) rfl (ty := .int) (by decide +kernel) rfl rfl (Nat.le_of_ble_eq_true rfl) (fun _ h => h) rfl dX9_next_156 (fun H locs hP hD hS => ?_)
                    refine lv_goto (tgt := 238) hx hb dX9_next_159 (by decide) ?_
                    exact ret_rwv hx hb hr hlk (kP_eq (by show mO g o ab be lm _ _ _ _ um ua hh ++ _ = _; unfold nxZ nxM; rw [hse, if_neg hbl, if_pos hlet, hse2, if_neg h6f]; try rfl) hP) hS dX9_next_238
                  · skip
                    have c8' := Int32.not_le.mp c8
                    have h6f : 6 < e - b := by rw [show (6 : Int32) = nI 6 from rfl, nI_leI (by omega) (by omega)] at c8; omega
                    refine lv_iconst (v := 0) hx hb dX9_next_148 rfl ?_
                    refine lv_goto (tgt := 156) hx hb dX9_next_149 (by decide) ?_
                    refine kput (B' := mO g o ab be lm e b 0 z.2.2.2 um ua hh) hC.1 hK hP hD hS 0 rfl rfl in_9 tyX9 tyX9_ok nmX9 11 (by decide) (gw_in m_971 rfl) rfl (ty := .int) (by decide +kernel) rfl rfl (Nat.le_of_ble_eq_true rfl) (fun _ h => h) mO_adr dX9_next_156 (fun H locs hP hD hS => ?_)
                    refine lv_goto (tgt := 238) hx hb dX9_next_159 (by decide) ?_
                    exact ret_rwv hx hb hr hlk (kP_eq (by show mO g o ab be lm _ _ _ _ um ua hh ++ _ = _; unfold nxZ nxM; rw [hse, if_neg hbl, if_pos hlet, hse2, if_pos h6f]; try rfl) hP) hS dX9_next_238
                · skip
                  have c7 := b2i_1 c7
                  have hine : e < lm ∧ (fun k => wth (tx k) 97 122) e = true := by have h9 := c7; simp only [Bool.and_eq_true, decide_eq_true_eq] at h9; exact h9
                  refine lv_aload_n hx hb dX9_next_78 rfl (lv_at hl 0 rfl) ?_
                  refine lv_aload_n hx hb dX9_next_79 rfl (lv_at hl 0 rfl) ?_
                  refine kget hC.1 hK (kP_app.mp hP).1 0 rfl rfl in_9 9 (by decide) (gw_in m_969 rfl) rfl dX9_next_80 ?_
                  refine lv_aload_n hx hb dX9_next_83 rfl (lv_at hl 0 rfl) ?_
                  refine kget hC.1 hK (kP_app.mp hP).1 0 rfl rfl in_9 10 (by decide) (gw_in m_970 rfl) rfl dX9_next_84 ?_
                  refine lv_isub hx hb dX9_next_87 ?_
                  refine top_i (x := (nI e) - (nI b)) (y := nI (e - b)) (pk_sub hbe) ?_
                  refine lv_bipush (v := 6) hx hb dX9_next_88 rfl ?_
                  refine lv_icmp_ge (tgt := 116) hx hb dX9_next_90 (by decide) (fun c9 => ?_) (fun c9 => ?_)
                  · skip
                    have c9' := Int32.not_lt.mpr c9
                    have h6e : ¬ e - b < 6 := by rw [show (6 : Int32) = nI 6 from rfl, nI_leI (by omega) (by omega)] at c9; omega
                    refine lv_iconst (v := 0) hx hb dX9_next_116 rfl ?_
                    refine kput (B' := mO g o ab be lm e b 0 z.2.2.2 um ua hh) hC.1 hK hP hD hS 0 rfl rfl in_9 tyX9 tyX9_ok nmX9 11 (by decide) (gw_in m_971 rfl) rfl (ty := .int) (by decide +kernel) rfl rfl (Nat.le_of_ble_eq_true rfl) (fun _ h => h) mO_adr dX9_next_117 (fun H locs hP hD hS => ?_)
                    refine lv_aload_n hx hb dX9_next_120 rfl (lv_at hl 0 rfl) ?_
                    refine lv_dup hx hb dX9_next_121 rfl ?_
                    refine kget hC.1 hK (kP_app.mp hP).1 0 rfl rfl in_9 9 (by decide) (gw_in m_969 rfl) rfl dX9_next_122 ?_
                    refine lv_iconst (v := 1) hx hb dX9_next_125 rfl ?_
                    refine lv_iadd hx hb dX9_next_126 ?_
                    refine top_i (x := (nI e) + 1) (y := nI (e + 1)) (nI_1 e) ?_
                    refine kput (B' := mO g o ab be lm (e + 1) b 0 z.2.2.2 um ua hh) hC.1 hK hP hD hS 0 rfl rfl in_9 tyX9 tyX9_ok nmX9 9 (by decide) (gw_in m_969 rfl) rfl (ty := .int) (by decide +kernel) rfl rfl (Nat.le_of_ble_eq_true rfl) (fun _ h => h) mO_adr dX9_next_127 (fun H locs hP hD hS => ?_)
                    refine lv_goto (tgt := 67) hx hb dX9_next_130 (by decide) ?_
                    have e9 : wdM tx b (e + 1 - b) = 0 := by rw [show e + 1 - b = (e - b) + 1 from by omega]; exact if_neg h6e
                    have hP : kP g (mO g o ab be lm (e + 1) b (wdM tx b (e + 1 - b)) z.2.2.2 um ua hh ++ (aW g (o 6) 150 tx ++ [])) _ := kP_eq (by rw [e9]) hP
                    have hD : va_D _ (mO g o ab be lm (e + 1) b (wdM tx b (e + 1 - b)) z.2.2.2 um ua hh ++ (aW g (o 6) 150 tx ++ [])) := vD_eq (by rw [e9]) hD
                    exact ih67 (e + 1) (by omega) (by omega) ((skF_go hine.1 hine.2).symm.trans hee) (by omega) _ _ hP hD hS _ (lv_sub hl [0] rfl)
                  · skip
                    have c9' := Int32.not_le.mp c9
                    have h6e : e - b < 6 := by rw [show (6 : Int32) = nI 6 from rfl, nI_leI (by omega) (by omega)] at c9; omega
                    refine lv_bipush (v := 27) hx hb dX9_next_93 rfl ?_
                    refine lv_aload_n hx hb dX9_next_95 rfl (lv_at hl 0 rfl) ?_
                    refine kget hC.1 hK (kP_app.mp hP).1 0 rfl rfl in_9 11 (by decide) (gw_in m_971 rfl) rfl dX9_next_96 ?_
                    refine lv_imul hx hb dX9_next_99 ?_
                    refine lv_aload_n hx hb dX9_next_100 rfl (lv_at hl 0 rfl) ?_
                    refine kget hC.1 hK (kP_app.mp hP).1 0 rfl rfl in_9 8 (by decide) (gw_in m_968 rfl) rfl dX9_next_101 ?_
                    refine lv_aload_n hx hb dX9_next_104 rfl (lv_at hl 0 rfl) ?_
                    refine kget hC.1 hK (kP_app.mp hP).1 0 rfl rfl in_9 9 (by decide) (gw_in m_969 rfl) rfl dX9_next_105 ?_
                    refine kald (v := tx e) hC.1 hK (kP_app.mp (kP_app.mp hP).2).1 0 rfl (vp_in_nI (by omega) (by omega)) (by rw [cl_nI (by omega)]) dX9_next_108 ?_
                    refine lv_iadd hx hb dX9_next_109 ?_
                    refine lv_bipush (v := 96) hx hb dX9_next_110 rfl ?_
                    refine lv_isub hx hb dX9_next_112 ?_
                    refine lv_goto (tgt := 117) hx hb dX9_next_113 (by decide) ?_
                    refine kput (B' := mO g o ab be lm e b (((27 * (wdM tx b (e - b))) + (tx e)) - 96) z.2.2.2 um ua hh) hC.1 hK hP hD hS 0 rfl rfl in_9 tyX9 tyX9_ok nmX9 11 (by decide) (gw_in m_971 rfl) rfl (ty := .int) (by decide +kernel) rfl rfl (Nat.le_of_ble_eq_true rfl) (fun _ h => h) mO_adr dX9_next_117 (fun H locs hP hD hS => ?_)
                    refine lv_aload_n hx hb dX9_next_120 rfl (lv_at hl 0 rfl) ?_
                    refine lv_dup hx hb dX9_next_121 rfl ?_
                    refine kget hC.1 hK (kP_app.mp hP).1 0 rfl rfl in_9 9 (by decide) (gw_in m_969 rfl) rfl dX9_next_122 ?_
                    refine lv_iconst (v := 1) hx hb dX9_next_125 rfl ?_
                    refine lv_iadd hx hb dX9_next_126 ?_
                    refine top_i (x := (nI e) + 1) (y := nI (e + 1)) (nI_1 e) ?_
                    refine kput (B' := mO g o ab be lm (e + 1) b (((27 * (wdM tx b (e - b))) + (tx e)) - 96) z.2.2.2 um ua hh) hC.1 hK hP hD hS 0 rfl rfl in_9 tyX9 tyX9_ok nmX9 9 (by decide) (gw_in m_969 rfl) rfl (ty := .int) (by decide +kernel) rfl rfl (Nat.le_of_ble_eq_true rfl) (fun _ h => h) mO_adr dX9_next_127 (fun H locs hP hD hS => ?_)
                    refine lv_goto (tgt := 67) hx hb dX9_next_130 (by decide) ?_
                    have e9 : wdM tx b (e + 1 - b) = ((27 * (wdM tx b (e - b))) + (tx e)) - 96 := by rw [show e + 1 - b = (e - b) + 1 from by omega]; exact (if_pos h6e).trans (by rw [show b + (e - b) = e from by omega])
                    have hP : kP g (mO g o ab be lm (e + 1) b (wdM tx b (e + 1 - b)) z.2.2.2 um ua hh ++ (aW g (o 6) 150 tx ++ [])) _ := kP_eq (by rw [e9]) hP
                    have hD : va_D _ (mO g o ab be lm (e + 1) b (wdM tx b (e + 1 - b)) z.2.2.2 um ua hh ++ (aW g (o 6) 150 tx ++ [])) := vD_eq (by rw [e9]) hD
                    exact ih67 (e + 1) (by omega) (by omega) ((skF_go hine.1 hine.2).symm.trans hee) (by omega) _ _ hP hD hS _ (lv_sub hl [0] rfl)
            have hP : kP g (mO g o ab be lm b b (wdM tx b (b - b)) z.2.2.2 um ua hh ++ (aW g (o 6) 150 tx ++ [])) _ := kP_eq (by rw [Nat.sub_self]; rfl) hP
            have hD : va_D _ (mO g o ab be lm b b (wdM tx b (b - b)) z.2.2.2 um ua hh ++ (aW g (o 6) 150 tx ++ [])) := vD_eq (by rw [Nat.sub_self]; rfl) hD
            exact cut67 _ b (Nat.lt_succ_self _) (by omega) rfl (Nat.le_refl b) _ _ hP hD hS _ (lv_sub hl [0] rfl)
        · skip
          have hbl : b = lm := by rw [nI_eq (by omega) (by omega)] at c2; exact c2
          refine lv_aload_n hx hb dX9_next_43 rfl (lv_at hl 0 rfl) ?_
          refine lv_iconst (v := -1) hx hb dX9_next_44 rfl ?_
          refine kput (B' := mO g o ab be lm b b (-1) z.2.2.2 um ua hh) hC.1 hK hP hD hS 0 rfl rfl in_9 tyX9 tyX9_ok nmX9 11 (by decide) (gw_in m_971 rfl) rfl (ty := .int) (by decide +kernel) rfl rfl (Nat.le_of_ble_eq_true rfl) (fun _ h => h) mO_adr dX9_next_45 (fun H locs hP hD hS => ?_)
          refine lv_goto (tgt := 238) hx hb dX9_next_48 (by decide) ?_
          exact ret_rwv hx hb hr hlk (kP_eq (by show mO g o ab be lm _ _ _ _ um ua hh ++ _ = _; unfold nxZ nxM; rw [hse, if_pos hbl]; try rfl) hP) hS dX9_next_238
      · skip
        have c1 := b2i_1 c1
        have hinb : b < lm ∧ (fun k => wth (tx k) 32 32) b = true := by have h9 := c1; simp only [Bool.and_eq_true, decide_eq_true_eq] at h9; exact h9
        refine lv_aload_n hx hb dX9_next_11 rfl (lv_at hl 0 rfl) ?_
        refine lv_dup hx hb dX9_next_12 rfl ?_
        refine kget hC.1 hK (kP_app.mp hP).1 0 rfl rfl in_9 9 (by decide) (gw_in m_969 rfl) rfl dX9_next_13 ?_
        refine lv_iconst (v := 1) hx hb dX9_next_16 rfl ?_
        refine lv_iadd hx hb dX9_next_17 ?_
        refine top_i (x := (nI b) + 1) (y := nI (b + 1)) (nI_1 b) ?_
        refine kput (B' := mO g o ab be lm (b + 1) z.2.1 z.2.2.1 z.2.2.2 um ua hh) hC.1 hK hP hD hS 0 rfl rfl in_9 tyX9 tyX9_ok nmX9 9 (by decide) (gw_in m_969 rfl) rfl (ty := .int) (by decide +kernel) rfl rfl (Nat.le_of_ble_eq_true rfl) (fun _ h => h) mO_adr dX9_next_18 (fun H locs hP hD hS => ?_)
        refine lv_goto (tgt := 0) hx hb dX9_next_21 (by decide) ?_
        exact ih0 (b + 1) (by omega) (by omega) ((skF_go hinb.1 hinb.2).symm.trans heb) _ _ hP hD hS _ (lv_sub hl [0] rfl)
  exact cut0 _ z.1 (Nat.lt_succ_self _) (by omega) rfl _ _ hP hD hS _ (lv_sub hl [0] rfl)
set_option maxHeartbeats 4000000 in
set_option maxRecDepth 100000 in
theorem kX9_fails (l : Launch) (g : gG) (o : Nat → Nat) (ab be : Int64) (lm : Nat) (z : M4) (um ua : Nat) (hh : Int64)  : Met l yX9_fails (.code yX9_fails cX9_fails 1 (some .int) :: gw) (rmN 0) (va_Pc [.ref (o 0)] (rwPre g (mT g o ab be lm z um ua hh ++ []))) (rwQi g (mT g o ab be lm z um ua hh ++ []) (mT g o ab be lm (flZ z) um ua hh ++ []) (-1)) 0 0 (dm (mT g o ab be lm z um ua hh ++ [])) := by
  refine met_start (by decide) (Nat.le_of_ble_eq_true rfl) ?_
  intro pp ee ss mm bl mt cd hC hpre ls hl
  obtain ⟨⟨hx, hb, hml, hown, hts⟩, hr, hlk, hnm⟩ := id hC
  have hl : lv_has ls 1 [(0, .ref (o 0))] := hl
  obtain ⟨hP, hK, hD⟩ := hpre
  have hS : va_S (dm (mT g o ab be lm z um ua hh ++ [])) ss.heap ss.heap [] := va_S.rf
  have hD := vD_self hD
  have hP : kP g (mO g o ab be lm z.1 z.2.1 z.2.2.1 z.2.2.2 um ua hh ++ []) _ := hP
  have hD : va_D _ (mO g o ab be lm z.1 z.2.1 z.2.2.1 z.2.2.2 um ua hh ++ []) := hD
  refine lv_aload_n hx hb dX9_fails_0 rfl (lv_at hl 0 rfl) ?_
  refine lv_aload_n hx hb dX9_fails_1 rfl (lv_at hl 0 rfl) ?_
  refine kget hC.1 hK (kP_app.mp hP).1 0 rfl rfl in_9 10 (by decide) (gw_in m_970 rfl) rfl dX9_fails_2 ?_
  refine kput (B' := mO g o ab be lm z.1 z.2.1 z.2.2.1 (nI z.2.1) um ua hh) hC.1 hK hP hD hS 0 rfl rfl in_9 tyX9 tyX9_ok nmX9 12 (by decide) (gw_in m_972 rfl) rfl (ty := .int) (by decide +kernel) rfl rfl (Nat.le_of_ble_eq_true rfl) (fun _ h => h) mO_adr dX9_fails_5 (fun H locs hP hD hS => ?_)
  refine lv_iconst (v := -1) hx hb dX9_fails_8 rfl ?_
  exact ret_rwi hx hb hr hlk (by rfl) (hP) hS dX9_fails_9
set_option maxHeartbeats 4000000 in
set_option maxRecDepth 100000 in
theorem kX9_number (l : Launch) (g : gG) (o : Nat → Nat) (ab be : Int64) (lm : Nat) (z : M4) (um ua : Nat) (hh : Int64) (tx : Nat → Int32) (u v : Int32) (hN : lm ≤ 150) (hra : z.1 ≤ lm) : Met l yX9_number (.code yX9_number cX9_number 4 (some .int) :: gw) (rmN 3) (va_Pc [.ref (o 0), .int (u), .int (v)] (rwPre g (mT g o ab be lm z um ua hh ++ (aW g (o 6) 150 tx ++ [])))) (rwQi g (mT g o ab be lm z um ua hh ++ (aW g (o 6) 150 tx ++ [])) (mT g o ab be lm (nmZ tx lm u v z) um ua hh ++ (aW g (o 6) 150 tx ++ [])) (nmX tx lm u v z)) 0 0 (dm (mT g o ab be lm z um ua hh ++ (aW g (o 6) 150 tx ++ []))) := by
  refine met_start (by decide) (Nat.le_of_ble_eq_true rfl) ?_
  intro pp ee ss mm bl mt cd hC hpre ls hl
  obtain ⟨⟨hx, hb, hml, hown, hts⟩, hr, hlk, hnm⟩ := id hC
  have hl : lv_has ls 4 [(0, .ref (o 0)), (1, .int (u)), (2, .int (v))] := hl
  obtain ⟨hP, hK, hD⟩ := hpre
  have hS : va_S (dm (mT g o ab be lm z um ua hh ++ (aW g (o 6) 150 tx ++ []))) ss.heap ss.heap [] := va_S.rf
  have hD := vD_self hD
  refine lv_aload_n hx hb dX9_number_0 rfl (lv_at hl 0 rfl) ?_
  refine rw_v (run_V (As := []) (rest := []) hC.1 ckX9_next (kX9_next l g o ab be lm z um ua hh tx hN hra) (gw_in m_1094 rfl) (fb_rw _ _ _) (va_recv hK.1 (kP_app.mp hP).1 (q0 := 0) rfl rfl) (fun U hU hW => ⟨by rw [hU]; exact (kP_app.mpr ⟨(kP_app.mp hP).1, (kP_app.mpr ⟨(kP_app.mp (kP_app.mp hP).2).1, kP_nil⟩)⟩), kK_warm hW hK, vD_sub (sbA _ (sbA _ (sb0 _))) hD⟩) ⟨rfl, rfl, Nat.le_of_ble_eq_true rfl, Nat.le_of_ble_eq_true rfl⟩ rfl hl.1 rfl (Nat.le_of_ble_eq_true rfl) dX9_number_1 ⟨Nat.le_of_ble_eq_true rfl, Nat.le_of_ble_eq_true rfl⟩) (adr_app mT_adr (adr_app rfl rfl)) (asc2 _ _ _) (ww' := mT g o ab be lm (nxZ tx lm z) um ua hh ++ (aW g (o 6) 150 tx ++ [])) (asc2 _ _ _) hP hD hS (fun H locs hP hD hS => ?_)
  refine lv_aload_n hx hb dX9_number_4 rfl (lv_at hl 0 rfl) ?_
  refine kget hC.1 hK (kP_app.mp hP).1 0 rfl rfl in_9 11 (by decide) (gw_in m_971 rfl) rfl dX9_number_5 ?_
  refine lv_bipush (v := -2) hx hb dX9_number_8 rfl ?_
  refine lv_icmp_ne (tgt := 26) hx hb dX9_number_10 (by decide) (fun c1 => ?_) (fun c1 => ?_)
  · skip
    have hk1 : ¬ (nxZ tx lm z).2.2.1 = -2 := c1
    refine lv_aload_n hx hb dX9_number_26 rfl (lv_at hl 0 rfl) ?_
    refine rw_i (run_V (As := []) (rest := []) hC.1 ckX9_fails (kX9_fails l g o ab be lm (nxZ tx lm z) um ua hh) (gw_in m_1111 rfl) (fb_rw _ _ _) (va_recv hK.1 (kP_app.mp hP).1 (q0 := 0) rfl rfl) (fun U hU hW => ⟨by rw [hU]; exact (kP_app.mpr ⟨(kP_app.mp hP).1, kP_nil⟩), kK_warm hW hK, vD_sub (sbA _ (sb0 _)) hD⟩) ⟨rfl, rfl, Nat.le_of_ble_eq_true rfl, Nat.le_of_ble_eq_true rfl⟩ rfl hl.1 rfl (Nat.le_of_ble_eq_true rfl) dX9_number_27 ⟨Nat.le_of_ble_eq_true rfl, Nat.le_of_ble_eq_true rfl⟩) (adr_app mT_adr rfl) (asc1 _ _) (ww' := mT g o ab be lm (flZ (nxZ tx lm z)) um ua hh ++ (aW g (o 6) 150 tx ++ [])) (asc1 _ _) hP hD hS (fun H locs hP hD hS => ?_)
    exact ret_rwi hx hb hr hlk (by unfold nmX; rw [if_neg (by unfold nmB; simp [hk1])]) (kP_eq (by unfold nmZ; rw [if_neg (by unfold nmB; simp [hk1])]) hP) hS dX9_number_30
  · skip
    have hk1 : (nxZ tx lm z).2.2.1 = -2 := c1
    have hfg := nx_fig hra hk1
    refine lv_aload_n hx hb dX9_number_13 rfl (lv_at hl 0 rfl) ?_
    refine kget hC.1 hK (kP_app.mp hP).1 0 rfl rfl in_9 9 (by decide) (gw_in m_969 rfl) rfl dX9_number_14 ?_
    refine lv_aload_n hx hb dX9_number_17 rfl (lv_at hl 0 rfl) ?_
    refine kget hC.1 hK (kP_app.mp hP).1 0 rfl rfl in_9 10 (by decide) (gw_in m_970 rfl) rfl dX9_number_18 ?_
    refine lv_isub hx hb dX9_number_21 ?_
    refine top_i (x := (nI (nxZ tx lm z).1) - (nI (nxZ tx lm z).2.1)) (y := nI ((nxZ tx lm z).1 - (nxZ tx lm z).2.1)) (pk_sub (by omega)) ?_
    refine lv_iconst (v := 2) hx hb dX9_number_22 rfl ?_
    refine lv_icmp_le (tgt := 31) hx hb dX9_number_23 (by decide) (fun c2 => ?_) (fun c2 => ?_)
    · skip
      have c2' := Int32.not_lt.mpr c2
      have hk2 : (nxZ tx lm z).1 - (nxZ tx lm z).2.1 ≤ 2 := by rw [show (2 : Int32) = nI 2 from rfl, nI_leI (by omega) (by omega)] at c2; exact c2
      refine lv_aload_n hx hb dX9_number_31 rfl (lv_at hl 0 rfl) ?_
      refine kget hC.1 hK (kP_app.mp hP).1 0 rfl rfl in_9 8 (by decide) (gw_in m_968 rfl) rfl dX9_number_32 ?_
      refine lv_aload_n hx hb dX9_number_35 rfl (lv_at hl 0 rfl) ?_
      refine kget hC.1 hK (kP_app.mp hP).1 0 rfl rfl in_9 10 (by decide) (gw_in m_970 rfl) rfl dX9_number_36 ?_
      refine kald (v := tx (nxZ tx lm z).2.1) hC.1 hK (kP_app.mp (kP_app.mp hP).2).1 0 rfl (vp_in_nI (by omega) (by omega)) (by rw [cl_nI (by omega)]) dX9_number_39 ?_
      refine lv_bipush (v := 48) hx hb dX9_number_40 rfl ?_
      refine lv_isub hx hb dX9_number_42 ?_
      refine lv_istore_n (lv' := [(3, .int ((tx (nxZ tx lm z).2.1) - 48)), (0, .ref (o 0)), (1, .int (u)), (2, .int (v))]) hx hb dX9_number_43 rfl hl (by decide) rfl (fun ls hl => ?_)
      refine lv_aload_n hx hb dX9_number_44 rfl (lv_at hl 1 rfl) ?_
      refine kget hC.1 hK (kP_app.mp hP).1 0 rfl rfl in_9 9 (by decide) (gw_in m_969 rfl) rfl dX9_number_45 ?_
      refine lv_aload_n hx hb dX9_number_48 rfl (lv_at hl 1 rfl) ?_
      refine kget hC.1 hK (kP_app.mp hP).1 0 rfl rfl in_9 10 (by decide) (gw_in m_970 rfl) rfl dX9_number_49 ?_
      refine lv_isub hx hb dX9_number_52 ?_
      refine top_i (x := (nI (nxZ tx lm z).1) - (nI (nxZ tx lm z).2.1)) (y := nI ((nxZ tx lm z).1 - (nxZ tx lm z).2.1)) (pk_sub (by omega)) ?_
      refine lv_iconst (v := 2) hx hb dX9_number_53 rfl ?_
      refine lv_icmp_ne (tgt := 79) hx hb dX9_number_54 (by decide) (fun c3 => ?_) (fun c3 => ?_)
      · skip
        have h2n : ¬ (nxZ tx lm z).1 - (nxZ tx lm z).2.1 = 2 := fun e9 => c3 (by rw [e9]; rfl)
        have hl : lv_has ls 4 [(3, .int (nmV tx (nxZ tx lm z))), (0, .ref (o 0)), (1, .int (u)), (2, .int (v))] := by rw [show nmV tx (nxZ tx lm z) = tx (nxZ tx lm z).2.1 - 48 from if_neg h2n]; exact hl
        refine lv_iload_n hx hb dX9_number_79 rfl (lv_at hl 0 rfl) ?_
        refine lv_istore_n (lv' := [(3, .int (nmV tx (nxZ tx lm z))), (0, .ref (o 0)), (1, .int (u)), (2, .int (v))]) hx hb dX9_number_80 rfl hl (by decide) rfl (fun ls hl => ?_)
        refine lv_iload_n hx hb dX9_number_81 rfl (lv_at hl 0 rfl) ?_
        refine lv_iload_n hx hb dX9_number_82 rfl (lv_at hl 2 rfl) ?_
        refine lv_iload_n hx hb dX9_number_83 rfl (lv_at hl 3 rfl) ?_
        refine ro_i (run_S (As := [.int (nmV tx (nxZ tx lm z)), .int (u), .int (v)]) (rest := []) hC.1 ckX9_in (kX9_in l (nmV tx (nxZ tx lm z)) u v) (gw_in m_1038 rfl) (fb_nil _) (fun _ _ _ => trivial) ⟨rfl, rfl, Nat.le_of_ble_eq_true rfl, Nat.le_of_ble_eq_true rfl⟩ rfl hl.1 rfl (Nat.le_of_ble_eq_true rfl) dX9_number_84 ⟨Nat.le_of_ble_eq_true rfl, Nat.le_of_ble_eq_true rfl⟩) ?_
        refine lv_if_eq (tgt := 94) hx hb dX9_number_87 (by decide) (fun c4 => ?_) (fun c4 => ?_)
        · skip
          have c4 := b2i_0 c4
          refine lv_aload_n hx hb dX9_number_94 rfl (lv_at hl 1 rfl) ?_
          refine rw_i (run_V (As := []) (rest := []) hC.1 ckX9_fails (kX9_fails l g o ab be lm (nxZ tx lm z) um ua hh) (gw_in m_1111 rfl) (fb_rw _ _ _) (va_recv hK.1 (kP_app.mp hP).1 (q0 := 0) rfl rfl) (fun U hU hW => ⟨by rw [hU]; exact (kP_app.mpr ⟨(kP_app.mp hP).1, kP_nil⟩), kK_warm hW hK, vD_sub (sbA _ (sb0 _)) hD⟩) ⟨rfl, rfl, Nat.le_of_ble_eq_true rfl, Nat.le_of_ble_eq_true rfl⟩ rfl hl.1 rfl (Nat.le_of_ble_eq_true rfl) dX9_number_95 ⟨Nat.le_of_ble_eq_true rfl, Nat.le_of_ble_eq_true rfl⟩) (adr_app mT_adr rfl) (asc1 _ _) (ww' := mT g o ab be lm (flZ (nxZ tx lm z)) um ua hh ++ (aW g (o 6) 150 tx ++ [])) (asc1 _ _) hP hD hS (fun H locs hP hD hS => ?_)
          exact ret_rwi hx hb hr hlk (by unfold nmX; rw [if_neg (by unfold nmB; simp [hk1, hk2, c4])]) (kP_eq (by unfold nmZ; rw [if_neg (by unfold nmB; simp [hk1, hk2, c4])]) hP) hS dX9_number_98
        · skip
          have c4 := b2i_1 c4
          refine lv_iload_n hx hb dX9_number_90 rfl (lv_at hl 0 rfl) ?_
          refine lv_goto (tgt := 98) hx hb dX9_number_91 (by decide) ?_
          exact ret_rwi hx hb hr hlk (by unfold nmX; rw [if_pos (by unfold nmB; simp [hk1, hk2, c4])]) (kP_eq (by unfold nmZ; rw [if_pos (by unfold nmB; simp [hk1, hk2, c4])]) hP) hS dX9_number_98
      · skip
        have h2n : (nxZ tx lm z).1 - (nxZ tx lm z).2.1 = 2 := by rw [show (2 : Int32) = nI 2 from rfl, nI_eq (by omega) (by omega)] at c3; exact c3
        refine lv_bipush (v := 10) hx hb dX9_number_57 rfl ?_
        refine lv_iload_n hx hb dX9_number_59 rfl (lv_at hl 0 rfl) ?_
        refine lv_imul hx hb dX9_number_60 ?_
        refine lv_aload_n hx hb dX9_number_61 rfl (lv_at hl 1 rfl) ?_
        refine kget hC.1 hK (kP_app.mp hP).1 0 rfl rfl in_9 8 (by decide) (gw_in m_968 rfl) rfl dX9_number_62 ?_
        refine lv_aload_n hx hb dX9_number_65 rfl (lv_at hl 1 rfl) ?_
        refine kget hC.1 hK (kP_app.mp hP).1 0 rfl rfl in_9 10 (by decide) (gw_in m_970 rfl) rfl dX9_number_66 ?_
        refine lv_iconst (v := 1) hx hb dX9_number_69 rfl ?_
        refine lv_iadd hx hb dX9_number_70 ?_
        refine top_i (x := (nI (nxZ tx lm z).2.1) + 1) (y := nI ((nxZ tx lm z).2.1 + 1)) (nI_1 _) ?_
        refine kald (v := tx ((nxZ tx lm z).2.1 + 1)) hC.1 hK (kP_app.mp (kP_app.mp hP).2).1 0 rfl (vp_in_nI (by omega) (by omega)) (by rw [cl_nI (by omega)]) dX9_number_71 ?_
        refine lv_iadd hx hb dX9_number_72 ?_
        refine lv_bipush (v := 48) hx hb dX9_number_73 rfl ?_
        refine lv_isub hx hb dX9_number_75 ?_
        refine top_i (x := ((10 * ((tx (nxZ tx lm z).2.1) - 48)) + (tx ((nxZ tx lm z).2.1 + 1))) - 48) (y := nmV tx (nxZ tx lm z)) (if_pos h2n).symm ?_
        refine lv_goto (tgt := 80) hx hb dX9_number_76 (by decide) ?_
        refine lv_istore_n (lv' := [(3, .int (nmV tx (nxZ tx lm z))), (0, .ref (o 0)), (1, .int (u)), (2, .int (v))]) hx hb dX9_number_80 rfl hl (by decide) rfl (fun ls hl => ?_)
        refine lv_iload_n hx hb dX9_number_81 rfl (lv_at hl 0 rfl) ?_
        refine lv_iload_n hx hb dX9_number_82 rfl (lv_at hl 2 rfl) ?_
        refine lv_iload_n hx hb dX9_number_83 rfl (lv_at hl 3 rfl) ?_
        refine ro_i (run_S (As := [.int (nmV tx (nxZ tx lm z)), .int (u), .int (v)]) (rest := []) hC.1 ckX9_in (kX9_in l (nmV tx (nxZ tx lm z)) u v) (gw_in m_1038 rfl) (fb_nil _) (fun _ _ _ => trivial) ⟨rfl, rfl, Nat.le_of_ble_eq_true rfl, Nat.le_of_ble_eq_true rfl⟩ rfl hl.1 rfl (Nat.le_of_ble_eq_true rfl) dX9_number_84 ⟨Nat.le_of_ble_eq_true rfl, Nat.le_of_ble_eq_true rfl⟩) ?_
        refine lv_if_eq (tgt := 94) hx hb dX9_number_87 (by decide) (fun c5 => ?_) (fun c5 => ?_)
        · skip
          have c5 := b2i_0 c5
          refine lv_aload_n hx hb dX9_number_94 rfl (lv_at hl 1 rfl) ?_
          refine rw_i (run_V (As := []) (rest := []) hC.1 ckX9_fails (kX9_fails l g o ab be lm (nxZ tx lm z) um ua hh) (gw_in m_1111 rfl) (fb_rw _ _ _) (va_recv hK.1 (kP_app.mp hP).1 (q0 := 0) rfl rfl) (fun U hU hW => ⟨by rw [hU]; exact (kP_app.mpr ⟨(kP_app.mp hP).1, kP_nil⟩), kK_warm hW hK, vD_sub (sbA _ (sb0 _)) hD⟩) ⟨rfl, rfl, Nat.le_of_ble_eq_true rfl, Nat.le_of_ble_eq_true rfl⟩ rfl hl.1 rfl (Nat.le_of_ble_eq_true rfl) dX9_number_95 ⟨Nat.le_of_ble_eq_true rfl, Nat.le_of_ble_eq_true rfl⟩) (adr_app mT_adr rfl) (asc1 _ _) (ww' := mT g o ab be lm (flZ (nxZ tx lm z)) um ua hh ++ (aW g (o 6) 150 tx ++ [])) (asc1 _ _) hP hD hS (fun H locs hP hD hS => ?_)
          exact ret_rwi hx hb hr hlk (by unfold nmX; rw [if_neg (by unfold nmB; simp [hk1, hk2, c5])]) (kP_eq (by unfold nmZ; rw [if_neg (by unfold nmB; simp [hk1, hk2, c5])]) hP) hS dX9_number_98
        · skip
          have c5 := b2i_1 c5
          refine lv_iload_n hx hb dX9_number_90 rfl (lv_at hl 0 rfl) ?_
          refine lv_goto (tgt := 98) hx hb dX9_number_91 (by decide) ?_
          exact ret_rwi hx hb hr hlk (by unfold nmX; rw [if_pos (by unfold nmB; simp [hk1, hk2, c5])]) (kP_eq (by unfold nmZ; rw [if_pos (by unfold nmB; simp [hk1, hk2, c5])]) hP) hS dX9_number_98
    · skip
      have c2' := Int32.not_le.mp c2
      have hk2 : ¬ (nxZ tx lm z).1 - (nxZ tx lm z).2.1 ≤ 2 := by rw [show (2 : Int32) = nI 2 from rfl, nI_leI (by omega) (by omega)] at c2; exact c2
      refine lv_aload_n hx hb dX9_number_26 rfl (lv_at hl 0 rfl) ?_
      refine rw_i (run_V (As := []) (rest := []) hC.1 ckX9_fails (kX9_fails l g o ab be lm (nxZ tx lm z) um ua hh) (gw_in m_1111 rfl) (fb_rw _ _ _) (va_recv hK.1 (kP_app.mp hP).1 (q0 := 0) rfl rfl) (fun U hU hW => ⟨by rw [hU]; exact (kP_app.mpr ⟨(kP_app.mp hP).1, kP_nil⟩), kK_warm hW hK, vD_sub (sbA _ (sb0 _)) hD⟩) ⟨rfl, rfl, Nat.le_of_ble_eq_true rfl, Nat.le_of_ble_eq_true rfl⟩ rfl hl.1 rfl (Nat.le_of_ble_eq_true rfl) dX9_number_27 ⟨Nat.le_of_ble_eq_true rfl, Nat.le_of_ble_eq_true rfl⟩) (adr_app mT_adr rfl) (asc1 _ _) (ww' := mT g o ab be lm (flZ (nxZ tx lm z)) um ua hh ++ (aW g (o 6) 150 tx ++ [])) (asc1 _ _) hP hD hS (fun H locs hP hD hS => ?_)
      exact ret_rwi hx hb hr hlk (by unfold nmX; rw [if_neg (by unfold nmB; simp [hk1, hk2])]) (kP_eq (by unfold nmZ; rw [if_neg (by unfold nmB; simp [hk1, hk2])]) hP) hS dX9_number_30
set_option maxHeartbeats 4000000 in
set_option maxRecDepth 100000 in
theorem kX9_ends (l : Launch) (g : gG) (o : Nat → Nat) (ab be : Int64) (lm : Nat) (z : M4) (um ua : Nat) (hh : Int64) (tx : Nat → Int32)  (hN : lm ≤ 150) (hra : z.1 ≤ lm) : Met l yX9_ends (.code yX9_ends cX9_ends 1 (some .boolean) :: gw) (rmN 3) (va_Pc [.ref (o 0)] (rwPre g (mT g o ab be lm z um ua hh ++ (aW g (o 6) 150 tx ++ [])))) (rwQi g (mT g o ab be lm z um ua hh ++ (aW g (o 6) 150 tx ++ [])) (mT g o ab be lm (enZ tx lm z) um ua hh ++ (aW g (o 6) 150 tx ++ [])) (b2i (enB tx lm z))) 0 0 (dm (mT g o ab be lm z um ua hh ++ (aW g (o 6) 150 tx ++ []))) := by
  refine met_start (by decide) (Nat.le_of_ble_eq_true rfl) ?_
  intro pp ee ss mm bl mt cd hC hpre ls hl
  obtain ⟨⟨hx, hb, hml, hown, hts⟩, hr, hlk, hnm⟩ := id hC
  have hl : lv_has ls 1 [(0, .ref (o 0))] := hl
  obtain ⟨hP, hK, hD⟩ := hpre
  have hS : va_S (dm (mT g o ab be lm z um ua hh ++ (aW g (o 6) 150 tx ++ []))) ss.heap ss.heap [] := va_S.rf
  have hD := vD_self hD
  refine lv_aload_n hx hb dX9_ends_0 rfl (lv_at hl 0 rfl) ?_
  refine rw_v (run_V (As := []) (rest := []) hC.1 ckX9_next (kX9_next l g o ab be lm z um ua hh tx hN hra) (gw_in m_1094 rfl) (fb_rw _ _ _) (va_recv hK.1 (kP_app.mp hP).1 (q0 := 0) rfl rfl) (fun U hU hW => ⟨by rw [hU]; exact (kP_app.mpr ⟨(kP_app.mp hP).1, (kP_app.mpr ⟨(kP_app.mp (kP_app.mp hP).2).1, kP_nil⟩)⟩), kK_warm hW hK, vD_sub (sbA _ (sbA _ (sb0 _))) hD⟩) ⟨rfl, rfl, Nat.le_of_ble_eq_true rfl, Nat.le_of_ble_eq_true rfl⟩ rfl hl.1 rfl (Nat.le_of_ble_eq_true rfl) dX9_ends_1 ⟨Nat.le_of_ble_eq_true rfl, Nat.le_of_ble_eq_true rfl⟩) (adr_app mT_adr (adr_app rfl rfl)) (asc2 _ _ _) (ww' := mT g o ab be lm (nxZ tx lm z) um ua hh ++ (aW g (o 6) 150 tx ++ [])) (asc2 _ _ _) hP hD hS (fun H locs hP hD hS => ?_)
  refine lv_aload_n hx hb dX9_ends_4 rfl (lv_at hl 0 rfl) ?_
  refine kget hC.1 hK (kP_app.mp hP).1 0 rfl rfl in_9 11 (by decide) (gw_in m_971 rfl) rfl dX9_ends_5 ?_
  refine lv_bipush (v := -3) hx hb dX9_ends_8 rfl ?_
  refine lv_icmp_eq (tgt := 18) hx hb dX9_ends_10 (by decide) (fun c1 => ?_) (fun c1 => ?_)
  · skip
    refine lv_aload_n hx hb dX9_ends_18 rfl (lv_at hl 0 rfl) ?_
    refine kget hC.1 hK (kP_app.mp hP).1 0 rfl rfl in_9 11 (by decide) (gw_in m_971 rfl) rfl dX9_ends_19 ?_
    refine lv_bipush (v := -3) hx hb dX9_ends_22 rfl ?_
    refine lv_icmp_ne (tgt := 31) hx hb dX9_ends_24 (by decide) (fun c2 => ?_) (fun c2 => ?_)
    · skip
      refine lv_iconst (v := 0) hx hb dX9_ends_31 rfl ?_
      exact ret_rwz hx hb hr hlk rfl (by first | contradiction | simp [enB, b2i, c1, c2]) (kP_eq (by first | contradiction | (unfold enZ; rw [if_neg (by simp [enB, c1, c2])])) hP) hS dX9_ends_32
    · skip
      refine lv_iconst (v := 1) hx hb dX9_ends_27 rfl ?_
      refine lv_goto (tgt := 32) hx hb dX9_ends_28 (by decide) ?_
      exact ret_rwz hx hb hr hlk rfl (by first | contradiction | simp [enB, b2i, c1, c2]) (kP_eq (by first | contradiction | (unfold enZ; rw [if_pos (by simp [enB, c1, c2])])) hP) hS dX9_ends_32
  · skip
    refine lv_aload_n hx hb dX9_ends_13 rfl (lv_at hl 0 rfl) ?_
    refine rw_i (run_V (As := []) (rest := []) hC.1 ckX9_fails (kX9_fails l g o ab be lm (nxZ tx lm z) um ua hh) (gw_in m_1111 rfl) (fb_rw _ _ _) (va_recv hK.1 (kP_app.mp hP).1 (q0 := 0) rfl rfl) (fun U hU hW => ⟨by rw [hU]; exact (kP_app.mpr ⟨(kP_app.mp hP).1, kP_nil⟩), kK_warm hW hK, vD_sub (sbA _ (sb0 _)) hD⟩) ⟨rfl, rfl, Nat.le_of_ble_eq_true rfl, Nat.le_of_ble_eq_true rfl⟩ rfl hl.1 rfl (Nat.le_of_ble_eq_true rfl) dX9_ends_14 ⟨Nat.le_of_ble_eq_true rfl, Nat.le_of_ble_eq_true rfl⟩) (adr_app mT_adr rfl) (asc1 _ _) (ww' := mT g o ab be lm (flZ (nxZ tx lm z)) um ua hh ++ (aW g (o 6) 150 tx ++ [])) (asc1 _ _) hP hD hS (fun H locs hP hD hS => ?_)
    refine lv_pop hx hb dX9_ends_17 rfl ?_
    refine lv_aload_n hx hb dX9_ends_18 rfl (lv_at hl 0 rfl) ?_
    refine kget hC.1 hK (kP_app.mp hP).1 0 rfl rfl in_9 11 (by decide) (gw_in m_971 rfl) rfl dX9_ends_19 ?_
    refine lv_bipush (v := -3) hx hb dX9_ends_22 rfl ?_
    refine lv_icmp_ne (tgt := 31) hx hb dX9_ends_24 (by decide) (fun c3 => ?_) (fun c3 => ?_)
    · skip
      refine lv_iconst (v := 0) hx hb dX9_ends_31 rfl ?_
      exact ret_rwz hx hb hr hlk rfl (by first | contradiction | simp [enB, b2i, c1, c3]) (kP_eq (by first | contradiction | (unfold enZ; rw [if_neg (by simp [enB, c1, c3])])) hP) hS dX9_ends_32
    · skip
      refine lv_iconst (v := 1) hx hb dX9_ends_27 rfl ?_
      refine lv_goto (tgt := 32) hx hb dX9_ends_28 (by decide) ?_
      exact ret_rwz hx hb hr hlk rfl (by first | contradiction | simp [enB, b2i, c1, c3]) (kP_eq (by first | contradiction | (unfold enZ; rw [if_pos (by simp [enB, c1, c3])])) hP) hS dX9_ends_32
