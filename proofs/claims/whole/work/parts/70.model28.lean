theorem ckX9_odds : ckV yX9_odds cX9_odds 15 (some .int) 4 := ⟨(gw_in m_1350 rfl), (gw_in m_71 rfl), ⟨(gw_in m_1348 rfl), (gw_in m_1349 rfl)⟩, by decide +kernel, by decide +kernel, by decide +kernel⟩
theorem ckX9_days : ckV yX9_days cX9_days 8 (some .int) 2 := ⟨(gw_in m_1355 rfl), (gw_in m_71 rfl), ⟨(gw_in m_1353 rfl), (gw_in m_1354 rfl)⟩, by decide +kernel, by decide +kernel, by decide +kernel⟩
theorem wth_nat {k : Int32} {m : Nat} (hm : m < 2147483648) (h : wth k 0 (nI m) = true) : ∃ N : Nat, N ≤ m ∧ k = nI N := by
  rw [wth_ti, Int32.toInt_zero, nI_ti hm] at h
  obtain ⟨N, h1, h2, h3⟩ := nI_ofT h.1
  exact ⟨N, by omega, h2⟩
theorem pw10 {N : Nat} (h : N ≤ 6) : 10 ^ N ≤ 1000000 := by
  match N, h with
  | 0, _ => decide | 1, _ => decide | 2, _ => decide | 3, _ => decide | 4, _ => decide | 5, _ => decide | 6, _ => decide
theorem cmp0 {x y : Int64} : lg_cmp x y = 0 ↔ x = y := by
  unfold lg_cmp
  constructor
  · intro h
    by_cases h1 : x > y
    · rw [if_pos h1] at h; exact absurd h (by decide)
    · rw [if_neg h1] at h
      by_cases h2 : x = y
      · exact h2
      · rw [if_neg h2] at h; exact absurd h (by decide)
  · intro h
    subst h
    rw [if_neg Int64.lt_irrefl, if_pos rfl]
theorem lN_ne0 {A : Nat} (h0 : 0 < A) (h : A < 2147483648) : ¬ lN A = 0 := by
  rw [show (0 : Int64) = lN 0 from rfl, pk_lEQ (by omega) (by omega)]; omega
theorem gcd_go (A B : Nat) : Nat.gcd A B = Nat.gcd B (A % B) := by
  rw [Nat.gcd_comm A B, Nat.gcd_rec B A, Nat.gcd_comm]
def pasM (r : Nat → Int32) : Nat → Int32 := upd r 0 (if 9999 < r 0 + 1 then 9999 else r 0 + 1)
theorem pasM_eq {r : Nat → Int32} (h : Wf r) : pasM r = pasF r := by
  unfold pasM pasF
  by_cases h1 : r 0 + 1 < 9999
  · rw [if_pos h1, if_neg (fun h2 => by rw [Int32.lt_iff_toInt_lt] at h1 h2; omega)]
  · rw [if_neg h1]
    by_cases h2 : 9999 < r 0 + 1
    · rw [if_pos h2]
    · rw [if_neg h2, Int32.le_antisymm (Int32.not_lt.mp h2) (Int32.not_lt.mp h1)]
theorem Wf_pasM {r : Nat → Int32} (h : Wf r) : Wf (pasM r) := by rw [pasM_eq h]; exact Wf_pasF h
/-- strikes by the bits of q that are misses: how much that weighs, what comes of it; the sum of those that break j alone -/
def owW (D q : Nat) : Nat → Nat
  | 0 => 1
  | k + 1 => owW D q k * (if hasB (nI q) (nI k) = true then D else 10 - D)
def owR (r : Nat → Int32) (i j : Int32) (q : Nat) : Nat → Nat → Int32
  | 0 => r
  | k + 1 => if yCan (owR r i j q k) i j = true then (if hasB (nI q) (nI k) = true then pasM (owR r i j q k) else stk (owR r i j q k) i j) else owR r i j q k
theorem Wf_owR {r : Nat → Int32} {i j : Int32} {q : Nat} (h : Wf r) : ∀ k, Wf (owR r i j q k)
  | 0 => h
  | k + 1 => by
    have ih := Wf_owR (i := i) (j := j) (q := q) h k
    unfold owR
    by_cases hc : yCan (owR r i j q k) i j = true
    · rw [if_pos hc]
      by_cases hb : hasB (nI q) (nI k) = true
      · rw [if_pos hb]; exact Wf_pasM ih
      · rw [if_neg hb]; exact Wf_stk ih (yCan_nut hc).1 (yCan_nut hc).2
    · rw [if_neg hc]; exact ih
def odS (r : Nat → Int32) (i j : Int32) (D N : Nat) : Nat → Nat
  | 0 => 0
  | q + 1 => odS r i j D N q + (if mBrk (owR r i j q N) j = true ∧ mBrk (owR r i j q N) i = false then owW D q N else 0)
theorem odS_f {r : Nat → Int32} {i j : Int32} {D N q : Nat} (h : ¬ (mBrk (owR r i j q N) j = true ∧ mBrk (owR r i j q N) i = false)) : odS r i j D N (q + 1) = odS r i j D N q := by
  show odS r i j D N q + (if _ then _ else _) = _
  rw [if_neg h, Nat.add_zero]
theorem owW_le {D q : Nat} (hD : D ≤ 10) : ∀ k, owW D q k ≤ 10 ^ k
  | 0 => Nat.le_refl 1
  | k + 1 => by
    have ih := owW_le (q := q) hD k
    unfold owW
    rw [Nat.pow_succ]
    refine Nat.mul_le_mul ih ?_
    split <;> omega
theorem odS_lq {r : Nat → Int32} {i j : Int32} {D N : Nat} (hD : D ≤ 10) : ∀ q, odS r i j D N q ≤ q * 10 ^ N
  | 0 => Nat.zero_le _
  | q + 1 => by
    have ih := odS_lq (r := r) (i := i) (j := j) (N := N) hD q
    have h2 := owW_le (q := q) hD N
    unfold odS
    rw [Nat.succ_mul]
    refine Nat.add_le_add ih ?_
    split
    · exact h2
    · exact Nat.zero_le _
theorem odS_le {r : Nat → Int32} {i j : Int32} {D N : Nat} (hD : D ≤ 10) : N ≤ 6 → odS r i j D N (2 ^ N) ≤ 64000000 := fun hN =>
  Nat.le_trans (odS_lq hD _) (Nat.mul_le_mul (pw64 hN) (pw10 hN))
def dySM (q : Nat → Int32) (x : Int64) : Nat → Int32 := if yCan q (diI x) (djI x) = true then stk q (diI x) (djI x) else pasM q
def dyM (r : Nat → Int32) (x : Int32) : Nat → Int64 × (Nat → Int32)
  | 0 => (x.toInt64, r)
  | n + 1 => (lcg (dyM r x n).1, dySM (dyM r x n).2 (lcg (dyM r x n).1))
theorem Wf_dyM {r : Nat → Int32} {x : Int32} (h : Wf r) : ∀ n, Wf (dyM r x n).2
  | 0 => h
  | n + 1 => by
    have ih := Wf_dyM (x := x) h n
    show Wf (dySM _ _)
    unfold dySM
    by_cases hc : yCan (dyM r x n).2 (diI (lcg (dyM r x n).1)) (djI (lcg (dyM r x n).1)) = true
    · rw [if_pos hc]; exact Wf_stk ih (yCan_nut hc).1 (yCan_nut hc).2
    · rw [if_neg hc]; exact Wf_pasM ih
theorem set_brk {r : Nat → Int32} (hw : Wf r) : ∃ S : Nat, S < 64 ∧ setB (fun j => mBrk r (nI j)) (cl (r 2)) = nI S := by
  have h1 := cl_ti (i := r 2) hw.2.2.1.1
  have h2 := hw.n6
  obtain ⟨S, h3, h4⟩ := set_nI (p := fun j => mBrk r (nI j)) (cl (r 2)) (by omega)
  exact ⟨S, Nat.lt_of_lt_of_le h3 (pw64 (by omega)), h4⟩
set_option maxHeartbeats 4000000 in
set_option maxRecDepth 100000 in
theorem kX9_odds (l : Launch) (g : gG) (o : Nat → Nat) (ab be : Int64) (lm ra ta : Nat) (ti fa : Int32) (um ua : Nat) (hh : Int64) (rf : Nat → Int32) (r tr : Nat → Int32) (i j n c : Int32) (hw : Wf r) : Met l yX9_odds (.code yX9_odds cX9_odds 15 (some .int) :: gw) (rmN 3) (va_Pc [.ref (o 0), .int (i), .int (j), .int (n), .int (c)] (rwPre g (mO g o ab be lm ra ta ti fa um ua hh ++ (aW g (o 1) 3 rf ++ (aW g (o 2) 45 r ++ (aW g (o 3) 45 tr ++ [])))))) (rxQi g (mO g o ab be lm ra ta ti fa um ua hh ++ (aW g (o 1) 3 rf ++ (aW g (o 2) 45 r ++ (aW g (o 3) 45 tr ++ [])))) (fun u9 : (Nat → Int32) => mO g o (if (yNut r i && yNut r j && decide (¬ i = j) && wth n 0 6 && wth c 0 10) = true then lN ((odS r i j (cl c) (cl n) (2 ^ cl n)) / Nat.gcd (odS r i j (cl c) (cl n) (2 ^ cl n)) (10 ^ cl n)) else ab) (if (yNut r i && yNut r j && decide (¬ i = j) && wth n 0 6 && wth c 0 10) = true then lN (10 ^ cl n / Nat.gcd (odS r i j (cl c) (cl n) (2 ^ cl n)) (10 ^ cl n)) else be) lm ra ta ti fa um ua hh ++ (aW g (o 1) 3 (if (yNut r i && yNut r j && decide (¬ i = j) && wth n 0 6 && wth c 0 10) = true then rf else upd rf 0 (rf 0 + 1)) ++ (aW g (o 2) 45 r ++ (aW g (o 3) 45 u9 ++ [])))) (if (yNut r i && yNut r j && decide (¬ i = j) && wth n 0 6 && wth c 0 10) = true then 1 else -2)) 0 0 (dm (mO g o ab be lm ra ta ti fa um ua hh ++ (aW g (o 1) 3 rf ++ (aW g (o 2) 45 r ++ (aW g (o 3) 45 tr ++ []))))) := by
  refine met_start (by decide) (Nat.le_of_ble_eq_true rfl) ?_
  intro pp ee ss mm bl mt cd hC hpre ls hl
  obtain ⟨⟨hx, hb, hml, hown, hts⟩, hr, hlk, hnm⟩ := id hC
  have hl : lv_has ls 15 [(0, .ref (o 0)), (1, .int (i)), (2, .int (j)), (3, .int (n)), (4, .int (c))] := hl
  obtain ⟨hP, hK, hD⟩ := hpre
  have hS : va_S (dm (mO g o ab be lm ra ta ti fa um ua hh ++ (aW g (o 1) 3 rf ++ (aW g (o 2) 45 r ++ (aW g (o 3) 45 tr ++ []))))) ss.heap ss.heap [] := va_S.rf
  have hD := vD_self hD
  refine lv_aload_n hx hb dX9_odds_0 rfl (lv_at hl 0 rfl) ?_
  refine lv_iload_n hx hb dX9_odds_1 rfl (lv_at hl 1 rfl) ?_
  refine lv_iload_n hx hb dX9_odds_2 rfl (lv_at hl 2 rfl) ?_
  refine ro_i (run_V (As := [.int (i), .int (j)]) (rest := []) hC.1 ckX9_isPair (kX9_isPair l g o ab be lm ra ta ti fa um ua hh r i j hw) (gw_in m_1182 rfl) (fb_ro _ _ _) (va_recv hK.1 (kP_app.mp hP).1 (q0 := 0) rfl rfl) (fun U hU hW => ⟨by rw [hU]; exact (kP_app.mpr ⟨(kP_app.mp hP).1, (kP_app.mpr ⟨(kP_app.mp (kP_app.mp (kP_app.mp hP).2).2).1, (kP_mem.mpr (fun _ h => absurd h List.not_mem_nil))⟩)⟩), kK_warm hW hK⟩) ⟨rfl, rfl, Nat.le_of_ble_eq_true rfl, Nat.le_of_ble_eq_true rfl⟩ rfl hl.1 rfl (Nat.le_of_ble_eq_true rfl) dX9_odds_3 ⟨Nat.le_of_ble_eq_true rfl, Nat.le_of_ble_eq_true rfl⟩) ?_
  refine lv_if_eq (tgt := 30) hx hb dX9_odds_6 (by decide) (fun c1 => ?_) (fun c1 => ?_)
  · skip
    have c1 := b2i_0 c1
    refine lv_aload_n hx hb dX9_odds_30 rfl (lv_at hl 0 rfl) ?_
    refine lv_bipush (v := -2) hx hb dX9_odds_31 rfl ?_
    refine rw_i (run_V (As := [.int (-2)]) (rest := []) hC.1 ckX9_bad (kX9_bad l g o ab be lm ra ta ti fa um ua hh rf (-2)) (gw_in m_1041 rfl) (fb_rw _ _ _) (va_recv hK.1 (kP_app.mp hP).1 (q0 := 0) rfl rfl) (fun U hU hW => ⟨by rw [hU]; exact (kP_app.mpr ⟨(kP_app.mp hP).1, (kP_app.mpr ⟨(kP_app.mp (kP_app.mp hP).2).1, kP_nil⟩)⟩), kK_warm hW hK, vD_sub (sbA _ (sbA _ (sb0 _))) hD⟩) ⟨rfl, rfl, Nat.le_of_ble_eq_true rfl, Nat.le_of_ble_eq_true rfl⟩ rfl hl.1 rfl (Nat.le_of_ble_eq_true rfl) dX9_odds_33 ⟨Nat.le_of_ble_eq_true rfl, Nat.le_of_ble_eq_true rfl⟩) (adr_app rfl (adr_app aW_adr rfl)) (asc2 _ _ _) (ww' := mO g o ab be lm ra ta ti fa um ua hh ++ (aW g (o 1) 3 (upd rf 0 (rf 0 + 1)) ++ (aW g (o 2) 45 r ++ (aW g (o 3) 45 tr ++ [])))) (asc2 _ _ _) hP hD hS (fun H locs hP hD hS => ?_)
    exact ret_rxi (S := (Nat → Int32)) tr hx hb hr hlk (by simp only [c1, if_true, if_false, eq_self, Bool.false_eq_true, Bool.and_true, Bool.true_and, Bool.and_false, Bool.false_and]) (kP_eq (by simp only [c1, if_true, if_false, eq_self, Bool.false_eq_true, Bool.and_true, Bool.true_and, Bool.and_false, Bool.false_and]) hP) hS dX9_odds_36
  · skip
    have c1 := b2i_1 c1
    refine lv_iload_n hx hb dX9_odds_9 rfl (lv_at hl 3 rfl) ?_
    refine lv_iconst (v := 0) hx hb dX9_odds_10 rfl ?_
    refine lv_bipush (v := 6) hx hb dX9_odds_11 rfl ?_
    refine ro_i (run_S (As := [.int (n), .int (0), .int (6)]) (rest := []) hC.1 ckX9_in (kX9_in l n 0 6) (gw_in m_1038 rfl) (fb_nil _) (fun _ _ _ => trivial) ⟨rfl, rfl, Nat.le_of_ble_eq_true rfl, Nat.le_of_ble_eq_true rfl⟩ rfl hl.1 rfl (Nat.le_of_ble_eq_true rfl) dX9_odds_13 ⟨Nat.le_of_ble_eq_true rfl, Nat.le_of_ble_eq_true rfl⟩) ?_
    refine lv_if_eq (tgt := 30) hx hb dX9_odds_16 (by decide) (fun c2 => ?_) (fun c2 => ?_)
    · skip
      have c2 := b2i_0 c2
      refine lv_aload_n hx hb dX9_odds_30 rfl (lv_at hl 0 rfl) ?_
      refine lv_bipush (v := -2) hx hb dX9_odds_31 rfl ?_
      refine rw_i (run_V (As := [.int (-2)]) (rest := []) hC.1 ckX9_bad (kX9_bad l g o ab be lm ra ta ti fa um ua hh rf (-2)) (gw_in m_1041 rfl) (fb_rw _ _ _) (va_recv hK.1 (kP_app.mp hP).1 (q0 := 0) rfl rfl) (fun U hU hW => ⟨by rw [hU]; exact (kP_app.mpr ⟨(kP_app.mp hP).1, (kP_app.mpr ⟨(kP_app.mp (kP_app.mp hP).2).1, kP_nil⟩)⟩), kK_warm hW hK, vD_sub (sbA _ (sbA _ (sb0 _))) hD⟩) ⟨rfl, rfl, Nat.le_of_ble_eq_true rfl, Nat.le_of_ble_eq_true rfl⟩ rfl hl.1 rfl (Nat.le_of_ble_eq_true rfl) dX9_odds_33 ⟨Nat.le_of_ble_eq_true rfl, Nat.le_of_ble_eq_true rfl⟩) (adr_app rfl (adr_app aW_adr rfl)) (asc2 _ _ _) (ww' := mO g o ab be lm ra ta ti fa um ua hh ++ (aW g (o 1) 3 (upd rf 0 (rf 0 + 1)) ++ (aW g (o 2) 45 r ++ (aW g (o 3) 45 tr ++ [])))) (asc2 _ _ _) hP hD hS (fun H locs hP hD hS => ?_)
      exact ret_rxi (S := (Nat → Int32)) tr hx hb hr hlk (by simp only [c1, c2, if_true, if_false, eq_self, Bool.false_eq_true, Bool.and_true, Bool.true_and, Bool.and_false, Bool.false_and]) (kP_eq (by simp only [c1, c2, if_true, if_false, eq_self, Bool.false_eq_true, Bool.and_true, Bool.true_and, Bool.and_false, Bool.false_and]) hP) hS dX9_odds_36
    · skip
      have c2 := b2i_1 c2
      refine lv_iload hx hb dX9_odds_19 (lv_at hl 4 rfl) ?_
      refine lv_iconst (v := 0) hx hb dX9_odds_21 rfl ?_
      refine lv_bipush (v := 10) hx hb dX9_odds_22 rfl ?_
      refine ro_i (run_S (As := [.int (c), .int (0), .int (10)]) (rest := []) hC.1 ckX9_in (kX9_in l c 0 10) (gw_in m_1038 rfl) (fb_nil _) (fun _ _ _ => trivial) ⟨rfl, rfl, Nat.le_of_ble_eq_true rfl, Nat.le_of_ble_eq_true rfl⟩ rfl hl.1 rfl (Nat.le_of_ble_eq_true rfl) dX9_odds_24 ⟨Nat.le_of_ble_eq_true rfl, Nat.le_of_ble_eq_true rfl⟩) ?_
      refine lv_if_ne (tgt := 37) hx hb dX9_odds_27 (by decide) (fun c3 => ?_) (fun c3 => ?_)
      · skip
        have c3 := b2i_1 c3
        obtain ⟨N, hN6, hne⟩ := wth_nat (m := 6) (by omega) c2
        obtain ⟨D, hD10, hde⟩ := wth_nat (m := 10) (by omega) c3
        have hl : lv_has ls 15 [(0, .ref (o 0)), (1, .int (i)), (2, .int (j)), (3, .int (nI N)), (4, .int (nI D))] := by rw [← hne, ← hde]; exact hl
        have hNc : cl n = N := by rw [hne]; exact cl_nI (by omega)
        have hDc : cl c = D := by rw [hde]; exact cl_nI (by omega)
        have h64 := pw64 hN6
        have h10 := pw10 hN6
        have hsum := odS_le (r := r) (i := i) (j := j) (N := N) hD10 hN6
        have hprs : (yNut r i = true ∧ yNut r j = true) := by have h9 := c1; simp only [Bool.and_eq_true] at h9; exact h9.1
        have hi6 := yNut_in hprs.1 hw.n6
        have hj6 := yNut_in hprs.2 hw.n6
        refine lv_lconst (v := 1) hx hb dX9_odds_37 rfl ?_
        refine lv_lstore (lv' := [(5, .long (1)), (0, .ref (o 0)), (1, .int (i)), (2, .int (j)), (3, .int (nI N)), (4, .int (nI D))]) hx hb dX9_odds_38 hl (by decide) rfl (fun ls hl => ?_)
        refine lv_iconst (v := 0) hx hb dX9_odds_40 rfl ?_
        refine lv_istore (lv' := [(7, .int (0)), (5, .long (1)), (0, .ref (o 0)), (1, .int (i)), (2, .int (j)), (3, .int (nI N)), (4, .int (nI D))]) hx hb dX9_odds_41 hl (by decide) rfl (fun ls hl => ?_)
        have cut43 : ∀ kk : Nat, ∀ (k : Nat), N + 1 - k < kk → (hk : k ≤ N) → ∀ (H : Heap) (locs : List Loc), kP g (mO g o ab be lm ra ta ti fa um ua hh ++ (aW g (o 1) 3 rf ++ (aW g (o 2) 45 r ++ (aW g (o 3) 45 tr ++ [])))) H → va_D (dm (mO g o ab be lm ra ta ti fa um ua hh ++ (aW g (o 1) 3 rf ++ (aW g (o 2) 45 r ++ (aW g (o 3) 45 tr ++ []))))) (mO g o ab be lm ra ta ti fa um ua hh ++ (aW g (o 1) 3 rf ++ (aW g (o 2) 45 r ++ (aW g (o 3) 45 tr ++ [])))) → va_S (dm (mO g o ab be lm ra ta ti fa um ua hh ++ (aW g (o 1) 3 rf ++ (aW g (o 2) 45 r ++ (aW g (o 3) 45 tr ++ []))))) ss.heap H locs → ∀ (ls : Array Slot), lv_has ls 15 [(0, .ref (o 0)), (1, .int (i)), (2, .int (j)), (3, .int (nI N)), (4, .int (nI D)), (5, .long (lN (10 ^ k))), (7, .int (nI k))] → W pp l ee (rmN 3) ss mm ([.ref (o 0), .int (i), .int (j), .int (n), .int (c)] : List Value).toArray bl mt cd H locs 0 0 (MQ bl (rxQi g (mO g o ab be lm ra ta ti fa um ua hh ++ (aW g (o 1) 3 rf ++ (aW g (o 2) 45 r ++ (aW g (o 3) 45 tr ++ [])))) (fun u9 : (Nat → Int32) => mO g o (if (yNut r i && yNut r j && decide (¬ i = j) && wth n 0 6 && wth c 0 10) = true then lN ((odS r i j (cl c) (cl n) (2 ^ cl n)) / Nat.gcd (odS r i j (cl c) (cl n) (2 ^ cl n)) (10 ^ cl n)) else ab) (if (yNut r i && yNut r j && decide (¬ i = j) && wth n 0 6 && wth c 0 10) = true then lN (10 ^ cl n / Nat.gcd (odS r i j (cl c) (cl n) (2 ^ cl n)) (10 ^ cl n)) else be) lm ra ta ti fa um ua hh ++ (aW g (o 1) 3 (if (yNut r i && yNut r j && decide (¬ i = j) && wth n 0 6 && wth c 0 10) = true then rf else upd rf 0 (rf 0 + 1)) ++ (aW g (o 2) 45 r ++ (aW g (o 3) 45 u9 ++ [])))) (if (yNut r i && yNut r j && decide (¬ i = j) && wth n 0 6 && wth c 0 10) = true then 1 else -2)) ([.ref (o 0), .int (i), .int (j), .int (n), .int (c)] : List Value).toArray ss 0 0 (dm (mO g o ab be lm ra ta ti fa um ua hh ++ (aW g (o 1) 3 rf ++ (aW g (o 2) 45 r ++ (aW g (o 3) 45 tr ++ [])))))) (F0 mm 43 ls []) := by
          intro kk
          induction kk with
          | zero => intro k hmu; exact absurd hmu (Nat.not_lt_zero _)
          | succ kk ih43 =>
            intro k hmu hk H locs hP hD hS ls hl
            refine lv_iload hx hb dX9_odds_43 (lv_at hl 6 rfl) ?_
            refine lv_iload_n hx hb dX9_odds_45 rfl (lv_at hl 3 rfl) ?_
            refine lv_icmp_ge (tgt := 63) hx hb dX9_odds_46 (by decide) (fun c4 => ?_) (fun c4 => ?_)
            · skip
              have c4' := Int32.not_lt.mpr c4
              have hn9 : k = N := by rw [nI_leI (by omega) (by omega)] at c4; omega
              have hl : lv_has ls 15 [(0, .ref (o 0)), (1, .int (i)), (2, .int (j)), (3, .int (nI N)), (4, .int (nI D)), (5, .long (lN (10 ^ N))), (7, .int (nI N))] := by rw [hn9] at hl; exact hl
              refine lv_lconst (v := 0) hx hb dX9_odds_63 rfl ?_
              refine lv_lstore (lv' := [(7, .long (0)), (0, .ref (o 0)), (1, .int (i)), (2, .int (j)), (3, .int (nI N)), (4, .int (nI D)), (5, .long (lN (10 ^ N)))]) hx hb dX9_odds_64 hl (by decide) rfl (fun ls hl => ?_)
              refine lv_iconst (v := 0) hx hb dX9_odds_66 rfl ?_
              refine lv_istore (lv' := [(9, .int (0)), (7, .long (0)), (0, .ref (o 0)), (1, .int (i)), (2, .int (j)), (3, .int (nI N)), (4, .int (nI D)), (5, .long (lN (10 ^ N)))]) hx hb dX9_odds_67 hl (by decide) rfl (fun ls hl => ?_)
              have cut69 : ∀ kk : Nat, ∀ (q : Nat) (tx9 : Nat → Int32), 2 ^ N + 1 - q < kk → (hq : q ≤ 2 ^ N) → ∀ (H : Heap) (locs : List Loc), kP g (mO g o ab be lm ra ta ti fa um ua hh ++ (aW g (o 1) 3 rf ++ (aW g (o 2) 45 r ++ (aW g (o 3) 45 tx9 ++ [])))) H → va_D (dm (mO g o ab be lm ra ta ti fa um ua hh ++ (aW g (o 1) 3 rf ++ (aW g (o 2) 45 r ++ (aW g (o 3) 45 tr ++ []))))) (mO g o ab be lm ra ta ti fa um ua hh ++ (aW g (o 1) 3 rf ++ (aW g (o 2) 45 r ++ (aW g (o 3) 45 tx9 ++ [])))) → va_S (dm (mO g o ab be lm ra ta ti fa um ua hh ++ (aW g (o 1) 3 rf ++ (aW g (o 2) 45 r ++ (aW g (o 3) 45 tr ++ []))))) ss.heap H locs → ∀ (ls : Array Slot), lv_has ls 15 [(0, .ref (o 0)), (1, .int (i)), (2, .int (j)), (3, .int (nI N)), (4, .int (nI D)), (5, .long (lN (10 ^ N))), (7, .long (lN (odS r i j D N q))), (9, .int (nI q))] → W pp l ee (rmN 3) ss mm ([.ref (o 0), .int (i), .int (j), .int (n), .int (c)] : List Value).toArray bl mt cd H locs 0 0 (MQ bl (rxQi g (mO g o ab be lm ra ta ti fa um ua hh ++ (aW g (o 1) 3 rf ++ (aW g (o 2) 45 r ++ (aW g (o 3) 45 tr ++ [])))) (fun u9 : (Nat → Int32) => mO g o (if (yNut r i && yNut r j && decide (¬ i = j) && wth n 0 6 && wth c 0 10) = true then lN ((odS r i j (cl c) (cl n) (2 ^ cl n)) / Nat.gcd (odS r i j (cl c) (cl n) (2 ^ cl n)) (10 ^ cl n)) else ab) (if (yNut r i && yNut r j && decide (¬ i = j) && wth n 0 6 && wth c 0 10) = true then lN (10 ^ cl n / Nat.gcd (odS r i j (cl c) (cl n) (2 ^ cl n)) (10 ^ cl n)) else be) lm ra ta ti fa um ua hh ++ (aW g (o 1) 3 (if (yNut r i && yNut r j && decide (¬ i = j) && wth n 0 6 && wth c 0 10) = true then rf else upd rf 0 (rf 0 + 1)) ++ (aW g (o 2) 45 r ++ (aW g (o 3) 45 u9 ++ [])))) (if (yNut r i && yNut r j && decide (¬ i = j) && wth n 0 6 && wth c 0 10) = true then 1 else -2)) ([.ref (o 0), .int (i), .int (j), .int (n), .int (c)] : List Value).toArray ss 0 0 (dm (mO g o ab be lm ra ta ti fa um ua hh ++ (aW g (o 1) 3 rf ++ (aW g (o 2) 45 r ++ (aW g (o 3) 45 tr ++ [])))))) (F0 mm 69 ls []) := by
                intro kk
                induction kk with
                | zero => intro q tx9 hmu; exact absurd hmu (Nat.not_lt_zero _)
                | succ kk ih69 =>
                  intro q tx9 hmu hq H locs hP hD hS ls hl
                  refine lv_iload hx hb dX9_odds_69 (lv_at hl 7 rfl) ?_
                  refine lv_iconst (v := 1) hx hb dX9_odds_71 rfl ?_
                  refine lv_iload_n hx hb dX9_odds_72 rfl (lv_at hl 3 rfl) ?_
                  refine lv_ishl hx hb dX9_odds_73 ?_
                  refine top_i (x := 1 <<< ((nI N) &&& 31)) (y := nI (2 ^ N)) (shl1 hN6) ?_
                  refine lv_icmp_ge (tgt := 213) hx hb dX9_odds_74 (by decide) (fun c5 => ?_) (fun c5 => ?_)
                  · skip
                    have c5' := Int32.not_lt.mpr c5
                    have hn9 : q = 2 ^ N := by rw [nI_leI (by omega) (by omega)] at c5; omega
                    have hl : lv_has ls 15 [(0, .ref (o 0)), (1, .int (i)), (2, .int (j)), (3, .int (nI N)), (4, .int (nI D)), (5, .long (lN (10 ^ N))), (7, .long (lN (odS r i j D N (2 ^ N)))), (9, .int (nI (2 ^ N)))] := by rw [hn9] at hl; exact hl
                    refine lv_lload hx hb dX9_odds_213 (lv_at hl 6 rfl) ?_
                    refine lv_lstore (lv' := [(9, .long (lN (odS r i j D N (2 ^ N)))), (0, .ref (o 0)), (1, .int (i)), (2, .int (j)), (3, .int (nI N)), (4, .int (nI D)), (5, .long (lN (10 ^ N))), (7, .long (lN (odS r i j D N (2 ^ N))))]) hx hb dX9_odds_215 hl (by decide) rfl (fun ls hl => ?_)
                    refine lv_lload hx hb dX9_odds_217 (lv_at hl 6 rfl) ?_
                    refine lv_lstore (lv' := [(11, .long (lN (10 ^ N))), (9, .long (lN (odS r i j D N (2 ^ N)))), (0, .ref (o 0)), (1, .int (i)), (2, .int (j)), (3, .int (nI N)), (4, .int (nI D)), (5, .long (lN (10 ^ N))), (7, .long (lN (odS r i j D N (2 ^ N))))]) hx hb dX9_odds_219 hl (by decide) rfl (fun ls hl => ?_)
                    have cut221 : ∀ kk : Nat, ∀ (A B : Nat), B < kk → (hA : A < 2147483648) → (hB : B < 2147483648) → (hgc : Nat.gcd A B = Nat.gcd (odS r i j D N (2 ^ N)) (10 ^ N)) → (hAB : 0 < A ∨ 0 < B) → ∀ (H : Heap) (locs : List Loc), kP g (mO g o ab be lm ra ta ti fa um ua hh ++ (aW g (o 1) 3 rf ++ (aW g (o 2) 45 r ++ (aW g (o 3) 45 tx9 ++ [])))) H → va_D (dm (mO g o ab be lm ra ta ti fa um ua hh ++ (aW g (o 1) 3 rf ++ (aW g (o 2) 45 r ++ (aW g (o 3) 45 tr ++ []))))) (mO g o ab be lm ra ta ti fa um ua hh ++ (aW g (o 1) 3 rf ++ (aW g (o 2) 45 r ++ (aW g (o 3) 45 tx9 ++ [])))) → va_S (dm (mO g o ab be lm ra ta ti fa um ua hh ++ (aW g (o 1) 3 rf ++ (aW g (o 2) 45 r ++ (aW g (o 3) 45 tr ++ []))))) ss.heap H locs → ∀ (ls : Array Slot), lv_has ls 15 [(0, .ref (o 0)), (1, .int (i)), (2, .int (j)), (3, .int (nI N)), (4, .int (nI D)), (5, .long (lN (10 ^ N))), (7, .long (lN (odS r i j D N (2 ^ N)))), (9, .long (lN A)), (11, .long (lN B))] → W pp l ee (rmN 3) ss mm ([.ref (o 0), .int (i), .int (j), .int (n), .int (c)] : List Value).toArray bl mt cd H locs 0 0 (MQ bl (rxQi g (mO g o ab be lm ra ta ti fa um ua hh ++ (aW g (o 1) 3 rf ++ (aW g (o 2) 45 r ++ (aW g (o 3) 45 tr ++ [])))) (fun u9 : (Nat → Int32) => mO g o (if (yNut r i && yNut r j && decide (¬ i = j) && wth n 0 6 && wth c 0 10) = true then lN ((odS r i j (cl c) (cl n) (2 ^ cl n)) / Nat.gcd (odS r i j (cl c) (cl n) (2 ^ cl n)) (10 ^ cl n)) else ab) (if (yNut r i && yNut r j && decide (¬ i = j) && wth n 0 6 && wth c 0 10) = true then lN (10 ^ cl n / Nat.gcd (odS r i j (cl c) (cl n) (2 ^ cl n)) (10 ^ cl n)) else be) lm ra ta ti fa um ua hh ++ (aW g (o 1) 3 (if (yNut r i && yNut r j && decide (¬ i = j) && wth n 0 6 && wth c 0 10) = true then rf else upd rf 0 (rf 0 + 1)) ++ (aW g (o 2) 45 r ++ (aW g (o 3) 45 u9 ++ [])))) (if (yNut r i && yNut r j && decide (¬ i = j) && wth n 0 6 && wth c 0 10) = true then 1 else -2)) ([.ref (o 0), .int (i), .int (j), .int (n), .int (c)] : List Value).toArray ss 0 0 (dm (mO g o ab be lm ra ta ti fa um ua hh ++ (aW g (o 1) 3 rf ++ (aW g (o 2) 45 r ++ (aW g (o 3) 45 tr ++ [])))))) (F0 mm 221 ls []) := by
                      intro kk
                      induction kk with
                      | zero => intro A B hmu; exact absurd hmu (Nat.not_lt_zero _)
                      | succ kk ih221 =>
                        intro A B hmu hA hB hgc hAB H locs hP hD hS ls hl
                        refine lv_lload hx hb dX9_odds_221 (lv_at hl 8 rfl) ?_
                        refine lv_lconst (v := 0) hx hb dX9_odds_223 rfl ?_
                        refine W.lcmp hx hb dX9_odds_224 ?_
                        refine lv_if_eq (tgt := 246) hx hb dX9_odds_225 (by decide) (fun c6 => ?_) (fun c6 => ?_)
                        · skip
                          have hB0 : B = 0 := by rw [cmp0, show (0 : Int64) = lN 0 from rfl, pk_lEQ (by omega) (by omega)] at c6; exact c6
                          subst hB0
                          have hA0 : 0 < A := by omega
                          have hAg : A = Nat.gcd (odS r i j D N (2 ^ N)) (10 ^ N) := (Nat.gcd_zero_right A).symm.trans hgc
                          refine lv_aload_n hx hb dX9_odds_246 rfl (lv_at hl 0 rfl) ?_
                          refine lv_lload hx hb dX9_odds_247 (lv_at hl 6 rfl) ?_
                          refine lv_lload hx hb dX9_odds_249 (lv_at hl 7 rfl) ?_
                          refine lv_ldiv hx hb dX9_odds_251 (lN_ne0 hA0 hA) ?_
                          refine top_l (x := (lN (odS r i j D N (2 ^ N))) / (lN A)) (y := lN ((odS r i j D N (2 ^ N)) / A)) (pk_lDiv (by omega) hA0 (by omega)) ?_
                          refine kput (B' := mO g o (lN ((odS r i j D N (2 ^ N)) / A)) be lm ra ta ti fa um ua hh) hC.1 hK hP hD hS 0 rfl rfl in_9 tyX9 tyX9_ok nmX9 1 (by decide) (gw_in m_961 rfl) rfl (ty := .long) (by decide +kernel) rfl rfl (Nat.le_of_ble_eq_true rfl) (fun _ h => h) mO_adr dX9_odds_252 (fun H locs hP hD hS => ?_)
                          refine lv_aload_n hx hb dX9_odds_255 rfl (lv_at hl 0 rfl) ?_
                          refine lv_lload hx hb dX9_odds_256 (lv_at hl 5 rfl) ?_
                          refine lv_lload hx hb dX9_odds_258 (lv_at hl 7 rfl) ?_
                          refine lv_ldiv hx hb dX9_odds_260 (lN_ne0 hA0 hA) ?_
                          refine top_l (x := (lN (10 ^ N)) / (lN A)) (y := lN (10 ^ N / A)) (pk_lDiv (by omega) hA0 (by omega)) ?_
                          refine kput (B' := mO g o (lN ((odS r i j D N (2 ^ N)) / A)) (lN (10 ^ N / A)) lm ra ta ti fa um ua hh) hC.1 hK hP hD hS 0 rfl rfl in_9 tyX9 tyX9_ok nmX9 2 (by decide) (gw_in m_962 rfl) rfl (ty := .long) (by decide +kernel) rfl rfl (Nat.le_of_ble_eq_true rfl) (fun _ h => h) mO_adr dX9_odds_261 (fun H locs hP hD hS => ?_)
                          refine lv_iconst (v := 1) hx hb dX9_odds_264 rfl ?_
                          exact ret_rxi (S := (Nat → Int32)) tx9 hx hb hr hlk (by rw [if_pos (by simp only [c1, c2, c3]; rfl)]) (kP_eq (by rw [if_pos (by simp only [c1, c2, c3]; rfl), if_pos (by simp only [c1, c2, c3]; rfl), if_pos (by simp only [c1, c2, c3]; rfl), hNc, hDc, ← hAg]) hP) hS dX9_odds_265
                        · skip
                          have hB0 : ¬ B = 0 := fun e => c6 (by rw [cmp0, e]; rfl)
                          refine lv_lload hx hb dX9_odds_228 (lv_at hl 7 rfl) ?_
                          refine lv_lload hx hb dX9_odds_230 (lv_at hl 8 rfl) ?_
                          refine lv_lrem hx hb dX9_odds_232 (lN_ne0 (by omega) hB) ?_
                          refine top_l (x := (lN A) - (lN A) / (lN B) * (lN B)) (y := lN (A % B)) (pk_lRem (by omega) (by omega) (by omega)) ?_
                          refine lv_lstore (lv' := [(13, .long (lN (A % B))), (0, .ref (o 0)), (1, .int (i)), (2, .int (j)), (3, .int (nI N)), (4, .int (nI D)), (5, .long (lN (10 ^ N))), (7, .long (lN (odS r i j D N (2 ^ N)))), (9, .long (lN A)), (11, .long (lN B))]) hx hb dX9_odds_233 hl (by decide) rfl (fun ls hl => ?_)
                          refine lv_lload hx hb dX9_odds_235 (lv_at hl 9 rfl) ?_
                          refine lv_lstore (lv' := [(9, .long (lN B)), (13, .long (lN (A % B))), (0, .ref (o 0)), (1, .int (i)), (2, .int (j)), (3, .int (nI N)), (4, .int (nI D)), (5, .long (lN (10 ^ N))), (7, .long (lN (odS r i j D N (2 ^ N)))), (11, .long (lN B))]) hx hb dX9_odds_237 hl (by decide) rfl (fun ls hl => ?_)
                          refine lv_lload hx hb dX9_odds_239 (lv_at hl 1 rfl) ?_
                          refine lv_lstore (lv' := [(11, .long (lN (A % B))), (9, .long (lN B)), (13, .long (lN (A % B))), (0, .ref (o 0)), (1, .int (i)), (2, .int (j)), (3, .int (nI N)), (4, .int (nI D)), (5, .long (lN (10 ^ N))), (7, .long (lN (odS r i j D N (2 ^ N))))]) hx hb dX9_odds_241 hl (by decide) rfl (fun ls hl => ?_)
                          refine lv_goto (tgt := 221) hx hb dX9_odds_243 (by decide) ?_
                          exact ih221 B (A % B) (by have := Nat.mod_lt A (show 0 < B by omega); omega) hB (by have := Nat.mod_lt A (show 0 < B by omega); omega) ((gcd_go A B).symm.trans hgc) (Or.inl (by omega)) _ _ hP hD hS _ (lv_sub hl [3, 4, 5, 6, 7, 8, 9, 1, 0] rfl)
                    exact cut221 _ (odS r i j D N (2 ^ N)) (10 ^ N) (Nat.lt_succ_self _) (by omega) (by omega) rfl (Or.inr (Nat.pow_pos (by decide))) _ _ hP hD hS _ (lv_sub hl [2, 3, 4, 5, 6, 7, 8, 1, 0] rfl)
                  · skip
                    have c5' := Int32.not_le.mp c5
                    have hn9 : q < 2 ^ N := by rw [nI_leI (by omega) (by omega)] at c5; omega
                    refine lv_lconst (v := 1) hx hb dX9_odds_77 rfl ?_
                    refine lv_lstore (lv' := [(10, .long (1)), (0, .ref (o 0)), (1, .int (i)), (2, .int (j)), (3, .int (nI N)), (4, .int (nI D)), (5, .long (lN (10 ^ N))), (7, .long (lN (odS r i j D N q))), (9, .int (nI q))]) hx hb dX9_odds_78 hl (by decide) rfl (fun ls hl => ?_)
                    refine lv_aload_n hx hb dX9_odds_80 rfl (lv_at hl 1 rfl) ?_
                    refine kget hC.1 hK (kP_app.mp hP).1 0 rfl rfl in_9 3 (by decide) (gw_in m_963 rfl) rfl dX9_odds_81 ?_
                    refine lv_aload_n hx hb dX9_odds_84 rfl (lv_at hl 1 rfl) ?_
                    refine kget hC.1 hK (kP_app.mp hP).1 0 rfl rfl in_9 4 (by decide) (gw_in m_964 rfl) rfl dX9_odds_85 ?_
                    have hP : kP g (aW g (o 2) 45 r ++ (aW g (o 3) 45 tx9 ++ (mO g o ab be lm ra ta ti fa um ua hh ++ (aW g (o 1) 3 rf ++ [])))) _ := kP_perm ((((pmA _ (pm_swap _ _ _)).trans (pm_swap _ _ _)).trans (pmA _ (pmA _ (pm_swap _ _ _)))).trans (pmA _ (pm_swap _ _ _))) hP
                    have hD : va_D _ (aW g (o 2) 45 r ++ (aW g (o 3) 45 tx9 ++ (mO g o ab be lm ra ta ti fa um ua hh ++ (aW g (o 1) 3 rf ++ [])))) := vD_perm ((((pmA _ (pm_swap _ _ _)).trans (pm_swap _ _ _)).trans (pmA _ (pmA _ (pm_swap _ _ _)))).trans (pmA _ (pm_swap _ _ _))) hD
                    refine rw_v (run_S (As := [.ref (o 2), .ref (o 3)]) (rest := []) hC.1 ckX9_copies (kX9_copies l g (o 2) (o 3) r tx9) (gw_in m_1175 rfl) (fb_rw _ _ _) (fun U hU hW => ⟨by rw [hU]; exact (kP_app.mpr ⟨(kP_app.mp hP).1, (kP_app.mpr ⟨(kP_app.mp (kP_app.mp hP).2).1, kP_nil⟩)⟩), kK_warm hW hK, vD_sub (sbA _ (sbA _ (sb0 _))) hD⟩) ⟨rfl, rfl, Nat.le_of_ble_eq_true rfl, Nat.le_of_ble_eq_true rfl⟩ rfl hl.1 rfl (Nat.le_of_ble_eq_true rfl) dX9_odds_88 ⟨Nat.le_of_ble_eq_true rfl, Nat.le_of_ble_eq_true rfl⟩) (adr_app rfl (adr_app aW_adr rfl)) (asc2 _ _ _) (ww' := aW g (o 2) 45 r ++ (aW g (o 3) 45 r ++ (mO g o ab be lm ra ta ti fa um ua hh ++ (aW g (o 1) 3 rf ++ [])))) (asc2 _ _ _) hP hD hS (fun H locs hP hD hS => ?_)
                    refine lv_iconst (v := 0) hx hb dX9_odds_91 rfl ?_
                    refine lv_istore (lv' := [(12, .int (0)), (10, .long (1)), (0, .ref (o 0)), (1, .int (i)), (2, .int (j)), (3, .int (nI N)), (4, .int (nI D)), (5, .long (lN (10 ^ N))), (7, .long (lN (odS r i j D N q))), (9, .int (nI q))]) hx hb dX9_odds_92 hl (by decide) rfl (fun ls hl => ?_)
                    have cut94 : ∀ kk : Nat, ∀ (k : Nat), N + 1 - k < kk → (hk : k ≤ N) → ∀ (H : Heap) (locs : List Loc), kP g (mO g o ab be lm ra ta ti fa um ua hh ++ (aW g (o 1) 3 rf ++ (aW g (o 2) 45 r ++ (aW g (o 3) 45 (owR r i j q k) ++ [])))) H → va_D (dm (mO g o ab be lm ra ta ti fa um ua hh ++ (aW g (o 1) 3 rf ++ (aW g (o 2) 45 r ++ (aW g (o 3) 45 tr ++ []))))) (mO g o ab be lm ra ta ti fa um ua hh ++ (aW g (o 1) 3 rf ++ (aW g (o 2) 45 r ++ (aW g (o 3) 45 (owR r i j q k) ++ [])))) → va_S (dm (mO g o ab be lm ra ta ti fa um ua hh ++ (aW g (o 1) 3 rf ++ (aW g (o 2) 45 r ++ (aW g (o 3) 45 tr ++ []))))) ss.heap H locs → ∀ (ls : Array Slot), lv_has ls 15 [(0, .ref (o 0)), (1, .int (i)), (2, .int (j)), (3, .int (nI N)), (4, .int (nI D)), (5, .long (lN (10 ^ N))), (7, .long (lN (odS r i j D N q))), (9, .int (nI q)), (10, .long (lN (owW D q k))), (12, .int (nI k))] → W pp l ee (rmN 3) ss mm ([.ref (o 0), .int (i), .int (j), .int (n), .int (c)] : List Value).toArray bl mt cd H locs 0 0 (MQ bl (rxQi g (mO g o ab be lm ra ta ti fa um ua hh ++ (aW g (o 1) 3 rf ++ (aW g (o 2) 45 r ++ (aW g (o 3) 45 tr ++ [])))) (fun u9 : (Nat → Int32) => mO g o (if (yNut r i && yNut r j && decide (¬ i = j) && wth n 0 6 && wth c 0 10) = true then lN ((odS r i j (cl c) (cl n) (2 ^ cl n)) / Nat.gcd (odS r i j (cl c) (cl n) (2 ^ cl n)) (10 ^ cl n)) else ab) (if (yNut r i && yNut r j && decide (¬ i = j) && wth n 0 6 && wth c 0 10) = true then lN (10 ^ cl n / Nat.gcd (odS r i j (cl c) (cl n) (2 ^ cl n)) (10 ^ cl n)) else be) lm ra ta ti fa um ua hh ++ (aW g (o 1) 3 (if (yNut r i && yNut r j && decide (¬ i = j) && wth n 0 6 && wth c 0 10) = true then rf else upd rf 0 (rf 0 + 1)) ++ (aW g (o 2) 45 r ++ (aW g (o 3) 45 u9 ++ [])))) (if (yNut r i && yNut r j && decide (¬ i = j) && wth n 0 6 && wth c 0 10) = true then 1 else -2)) ([.ref (o 0), .int (i), .int (j), .int (n), .int (c)] : List Value).toArray ss 0 0 (dm (mO g o ab be lm ra ta ti fa um ua hh ++ (aW g (o 1) 3 rf ++ (aW g (o 2) 45 r ++ (aW g (o 3) 45 tr ++ [])))))) (F0 mm 94 ls []) := by
                      intro kk
                      induction kk with
                      | zero => intro k hmu; exact absurd hmu (Nat.not_lt_zero _)
                      | succ kk ih94 =>
                        intro k hmu hk H locs hP hD hS ls hl
                        have hwk := Wf_owR (i := i) (j := j) (q := q) hw k
                        refine lv_iload hx hb dX9_odds_94 (lv_at hl 9 rfl) ?_
                        refine lv_iload_n hx hb dX9_odds_96 rfl (lv_at hl 3 rfl) ?_
                        refine lv_icmp_ge (tgt := 174) hx hb dX9_odds_97 (by decide) (fun c7 => ?_) (fun c7 => ?_)
                        · skip
                          have c7' := Int32.not_lt.mpr c7
                          have hn9 : k = N := by rw [nI_leI (by omega) (by omega)] at c7; omega
                          have hP : kP g (mO g o ab be lm ra ta ti fa um ua hh ++ (aW g (o 1) 3 rf ++ (aW g (o 2) 45 r ++ (aW g (o 3) 45 (owR r i j q N) ++ [])))) _ := kP_eq (by rw [hn9]) hP
                          have hD : va_D _ (mO g o ab be lm ra ta ti fa um ua hh ++ (aW g (o 1) 3 rf ++ (aW g (o 2) 45 r ++ (aW g (o 3) 45 (owR r i j q N) ++ [])))) := vD_eq (by rw [hn9]) hD
                          have hl : lv_has ls 15 [(0, .ref (o 0)), (1, .int (i)), (2, .int (j)), (3, .int (nI N)), (4, .int (nI D)), (5, .long (lN (10 ^ N))), (7, .long (lN (odS r i j D N q))), (9, .int (nI q)), (10, .long (lN (owW D q N))), (12, .int (nI N))] := by rw [hn9] at hl; exact hl
                          refine lv_lload hx hb dX9_odds_174 (lv_at hl 6 rfl) ?_
                          refine lv_aload_n hx hb dX9_odds_176 rfl (lv_at hl 0 rfl) ?_
                          refine kget hC.1 hK (kP_app.mp hP).1 0 rfl rfl in_9 4 (by decide) (gw_in m_964 rfl) rfl dX9_odds_177 ?_
                          refine lv_iload_n hx hb dX9_odds_180 rfl (lv_at hl 2 rfl) ?_
                          refine ro_i (run_S (As := [.ref (o 3), .int (j)]) (rest := [.long (lN (odS r i j D N q))]) hC.1 ckX9_isBroken (kX9_isBroken l g (o 3) (owR r i j q N) j hj6) (gw_in m_1133 rfl) (fb_ro _ _ _) (fun U hU hW => ⟨by rw [hU]; exact (kP_app.mp (kP_app.mp (kP_app.mp (kP_app.mp hP).2).2).2).1, kK_warm hW hK⟩) ⟨rfl, rfl, Nat.le_of_ble_eq_true rfl, Nat.le_of_ble_eq_true rfl⟩ rfl hl.1 rfl (Nat.le_of_ble_eq_true rfl) dX9_odds_181 ⟨Nat.le_of_ble_eq_true rfl, Nat.le_of_ble_eq_true rfl⟩) ?_
                          refine lv_if_eq (tgt := 203) hx hb dX9_odds_184 (by decide) (fun c8 => ?_) (fun c8 => ?_)
                          · skip
                            have c8 := b2i_0 c8
                            refine lv_lconst (v := 0) hx hb dX9_odds_203 rfl ?_
                            refine lv_ladd hx hb dX9_odds_204 ?_
                            refine top_l (x := (lN (odS r i j D N q)) + 0) (y := lN (odS r i j D N (q + 1))) ((Int64.add_zero _).trans (congrArg lN (odS_f (fun h => absurd h.1 (by rw [c8]; decide))).symm)) ?_
                            refine lv_lstore (lv' := [(7, .long (lN (odS r i j D N (q + 1)))), (0, .ref (o 0)), (1, .int (i)), (2, .int (j)), (3, .int (nI N)), (4, .int (nI D)), (5, .long (lN (10 ^ N))), (9, .int (nI q)), (10, .long (lN (owW D q N))), (12, .int (nI N))]) hx hb dX9_odds_205 hl (by decide) rfl (fun ls hl => ?_)
                            refine lv_iinc (v := nI (q + 1)) (lv' := [(9, .int (nI (q + 1))), (7, .long (lN (odS r i j D N (q + 1)))), (0, .ref (o 0)), (1, .int (i)), (2, .int (j)), (3, .int (nI N)), (4, .int (nI D)), (5, .long (lN (10 ^ N))), (10, .long (lN (owW D q N))), (12, .int (nI N))]) hx hb dX9_odds_207 hl (k := 7) rfl (inc_nI q) (by decide) rfl (fun ls hl => ?_)
                            refine lv_goto (tgt := 69) hx hb dX9_odds_210 (by decide) ?_
                            exact ih69 (q + 1) (owR r i j q N) (by omega) (by omega) _ _ hP hD hS _ (lv_sub hl [2, 3, 4, 5, 6, 7, 1, 0] rfl)
                          · skip
                            have c8 := b2i_1 c8
                            refine lv_aload_n hx hb dX9_odds_187 rfl (lv_at hl 0 rfl) ?_
                            refine kget hC.1 hK (kP_app.mp hP).1 0 rfl rfl in_9 4 (by decide) (gw_in m_964 rfl) rfl dX9_odds_188 ?_
                            refine lv_iload_n hx hb dX9_odds_191 rfl (lv_at hl 1 rfl) ?_
                            refine ro_i (run_S (As := [.ref (o 3), .int (i)]) (rest := [.long (lN (odS r i j D N q))]) hC.1 ckX9_isBroken (kX9_isBroken l g (o 3) (owR r i j q N) i hi6) (gw_in m_1133 rfl) (fb_ro _ _ _) (fun U hU hW => ⟨by rw [hU]; exact (kP_app.mp (kP_app.mp (kP_app.mp (kP_app.mp hP).2).2).2).1, kK_warm hW hK⟩) ⟨rfl, rfl, Nat.le_of_ble_eq_true rfl, Nat.le_of_ble_eq_true rfl⟩ rfl hl.1 rfl (Nat.le_of_ble_eq_true rfl) dX9_odds_192 ⟨Nat.le_of_ble_eq_true rfl, Nat.le_of_ble_eq_true rfl⟩) ?_
                            refine lv_if_ne (tgt := 203) hx hb dX9_odds_195 (by decide) (fun c9 => ?_) (fun c9 => ?_)
                            · skip
                              have c9 := b2i_1 c9
                              refine lv_lconst (v := 0) hx hb dX9_odds_203 rfl ?_
                              refine lv_ladd hx hb dX9_odds_204 ?_
                              refine top_l (x := (lN (odS r i j D N q)) + 0) (y := lN (odS r i j D N (q + 1))) ((Int64.add_zero _).trans (congrArg lN (odS_f (fun h => absurd h.2 (by rw [c9]; decide))).symm)) ?_
                              refine lv_lstore (lv' := [(7, .long (lN (odS r i j D N (q + 1)))), (0, .ref (o 0)), (1, .int (i)), (2, .int (j)), (3, .int (nI N)), (4, .int (nI D)), (5, .long (lN (10 ^ N))), (9, .int (nI q)), (10, .long (lN (owW D q N))), (12, .int (nI N))]) hx hb dX9_odds_205 hl (by decide) rfl (fun ls hl => ?_)
                              refine lv_iinc (v := nI (q + 1)) (lv' := [(9, .int (nI (q + 1))), (7, .long (lN (odS r i j D N (q + 1)))), (0, .ref (o 0)), (1, .int (i)), (2, .int (j)), (3, .int (nI N)), (4, .int (nI D)), (5, .long (lN (10 ^ N))), (10, .long (lN (owW D q N))), (12, .int (nI N))]) hx hb dX9_odds_207 hl (k := 7) rfl (inc_nI q) (by decide) rfl (fun ls hl => ?_)
                              refine lv_goto (tgt := 69) hx hb dX9_odds_210 (by decide) ?_
                              exact ih69 (q + 1) (owR r i j q N) (by omega) (by omega) _ _ hP hD hS _ (lv_sub hl [2, 3, 4, 5, 6, 7, 1, 0] rfl)
                            · skip
                              have c9 := b2i_0 c9
                              refine lv_lload hx hb dX9_odds_198 (lv_at hl 8 rfl) ?_
                              refine lv_goto (tgt := 204) hx hb dX9_odds_200 (by decide) ?_
                              refine lv_ladd hx hb dX9_odds_204 ?_
                              refine top_l (x := (lN (odS r i j D N q)) + (lN (owW D q N))) (y := lN (odS r i j D N (q + 1))) ((lN_add _ _).trans (congrArg lN (show odS r i j D N q + owW D q N = odS r i j D N (q + 1) from congrArg (fun z => odS r i j D N q + z) (if_pos ⟨c8, c9⟩).symm))) ?_
                              refine lv_lstore (lv' := [(7, .long (lN (odS r i j D N (q + 1)))), (0, .ref (o 0)), (1, .int (i)), (2, .int (j)), (3, .int (nI N)), (4, .int (nI D)), (5, .long (lN (10 ^ N))), (9, .int (nI q)), (10, .long (lN (owW D q N))), (12, .int (nI N))]) hx hb dX9_odds_205 hl (by decide) rfl (fun ls hl => ?_)
                              refine lv_iinc (v := nI (q + 1)) (lv' := [(9, .int (nI (q + 1))), (7, .long (lN (odS r i j D N (q + 1)))), (0, .ref (o 0)), (1, .int (i)), (2, .int (j)), (3, .int (nI N)), (4, .int (nI D)), (5, .long (lN (10 ^ N))), (10, .long (lN (owW D q N))), (12, .int (nI N))]) hx hb dX9_odds_207 hl (k := 7) rfl (inc_nI q) (by decide) rfl (fun ls hl => ?_)
                              refine lv_goto (tgt := 69) hx hb dX9_odds_210 (by decide) ?_
                              exact ih69 (q + 1) (owR r i j q N) (by omega) (by omega) _ _ hP hD hS _ (lv_sub hl [2, 3, 4, 5, 6, 7, 1, 0] rfl)
                        · skip
                          have c7' := Int32.not_le.mp c7
                          have hn9 : k < N := by rw [nI_leI (by omega) (by omega)] at c7; omega
                          refine lv_iload hx hb dX9_odds_100 (lv_at hl 7 rfl) ?_
                          refine lv_iload hx hb dX9_odds_102 (lv_at hl 9 rfl) ?_
                          refine ro_i (run_S (As := [.int (nI q), .int (nI k)]) (rest := []) hC.1 ckX9_has (kX9_has l (nI q) (nI k)) (gw_in m_1225 rfl) (fb_nil _) (fun _ _ _ => trivial) ⟨rfl, rfl, Nat.le_of_ble_eq_true rfl, Nat.le_of_ble_eq_true rfl⟩ rfl hl.1 rfl (Nat.le_of_ble_eq_true rfl) dX9_odds_104 ⟨Nat.le_of_ble_eq_true rfl, Nat.le_of_ble_eq_true rfl⟩) ?_
                          refine lv_istore (lv' := [(13, .int (b2i (hasB (nI q) (nI k)))), (0, .ref (o 0)), (1, .int (i)), (2, .int (j)), (3, .int (nI N)), (4, .int (nI D)), (5, .long (lN (10 ^ N))), (7, .long (lN (odS r i j D N q))), (9, .int (nI q)), (10, .long (lN (owW D q k))), (12, .int (nI k))]) hx hb dX9_odds_107 hl (by decide) rfl (fun ls hl => ?_)
                          refine lv_lload hx hb dX9_odds_109 (lv_at hl 9 rfl) ?_
                          refine lv_iload hx hb dX9_odds_111 (lv_at hl 0 rfl) ?_
                          refine lv_if_eq (tgt := 122) hx hb dX9_odds_113 (by decide) (fun c10 => ?_) (fun c10 => ?_)
                          · skip
                            have c10 := b2i_0 c10
                            refine lv_bipush (v := 10) hx hb dX9_odds_122 rfl ?_
                            refine lv_iload hx hb dX9_odds_124 (lv_at hl 5 rfl) ?_
                            refine lv_isub hx hb dX9_odds_126 ?_
                            refine top_i (x := 10 - (nI D)) (y := nI (10 - D)) (show nI 10 - nI D = _ from pk_sub (by omega)) ?_
                            refine lv_i2l hx hb dX9_odds_127 rfl ?_
                            refine top_l (x := (nI (10 - D)).toInt64) (y := lN (10 - D)) (nI_l (by omega)) ?_
                            refine lv_lmul hx hb dX9_odds_128 ?_
                            refine top_l (x := (lN (owW D q k)) * (lN (10 - D))) (y := lN (owW D q (k + 1))) ((lN_mul _ _).trans (congrArg lN (congrArg (fun z => owW D q k * z) (if_neg (by rw [c10]; decide)).symm))) ?_
                            refine lv_lstore (lv' := [(10, .long (lN (owW D q (k + 1)))), (13, .int (b2i (hasB (nI q) (nI k)))), (0, .ref (o 0)), (1, .int (i)), (2, .int (j)), (3, .int (nI N)), (4, .int (nI D)), (5, .long (lN (10 ^ N))), (7, .long (lN (odS r i j D N q))), (9, .int (nI q)), (12, .int (nI k))]) hx hb dX9_odds_129 hl (by decide) rfl (fun ls hl => ?_)
                            refine lv_aload_n hx hb dX9_odds_131 rfl (lv_at hl 2 rfl) ?_
                            refine kget hC.1 hK (kP_app.mp hP).1 0 rfl rfl in_9 4 (by decide) (gw_in m_964 rfl) rfl dX9_odds_132 ?_
                            refine lv_iload_n hx hb dX9_odds_135 rfl (lv_at hl 3 rfl) ?_
                            refine lv_iload_n hx hb dX9_odds_136 rfl (lv_at hl 4 rfl) ?_
                            refine ro_i (run_S (As := [.ref (o 3), .int (i), .int (j)]) (rest := []) hC.1 ckX9_canStrike (kX9_canStrike l g (o 3) (owR r i j q k) i j hwk) (gw_in m_1136 rfl) (fb_ro _ _ _) (fun U hU hW => ⟨by rw [hU]; exact (kP_app.mp (kP_app.mp (kP_app.mp (kP_app.mp hP).2).2).2).1, kK_warm hW hK⟩) ⟨rfl, rfl, Nat.le_of_ble_eq_true rfl, Nat.le_of_ble_eq_true rfl⟩ rfl hl.1 rfl (Nat.le_of_ble_eq_true rfl) dX9_odds_137 ⟨Nat.le_of_ble_eq_true rfl, Nat.le_of_ble_eq_true rfl⟩) ?_
                            refine lv_if_eq (tgt := 168) hx hb dX9_odds_140 (by decide) (fun c11 => ?_) (fun c11 => ?_)
                            · skip
                              have c11 := b2i_0 c11
                              refine lv_iinc (v := nI (k + 1)) (lv' := [(12, .int (nI (k + 1))), (10, .long (lN (owW D q (k + 1)))), (13, .int (b2i (hasB (nI q) (nI k)))), (0, .ref (o 0)), (1, .int (i)), (2, .int (j)), (3, .int (nI N)), (4, .int (nI D)), (5, .long (lN (10 ^ N))), (7, .long (lN (odS r i j D N q))), (9, .int (nI q))]) hx hb dX9_odds_168 hl (k := 10) rfl (inc_nI k) (by decide) rfl (fun ls hl => ?_)
                              refine lv_goto (tgt := 94) hx hb dX9_odds_171 (by decide) ?_
                              have e9 : owR r i j q (k + 1) = (owR r i j q k) := if_neg (by rw [c11]; decide)
                              have hP : kP g (mO g o ab be lm ra ta ti fa um ua hh ++ (aW g (o 1) 3 rf ++ (aW g (o 2) 45 r ++ (aW g (o 3) 45 (owR r i j q (k + 1)) ++ [])))) _ := kP_eq (by rw [e9]) hP
                              have hD : va_D _ (mO g o ab be lm ra ta ti fa um ua hh ++ (aW g (o 1) 3 rf ++ (aW g (o 2) 45 r ++ (aW g (o 3) 45 (owR r i j q (k + 1)) ++ [])))) := vD_eq (by rw [e9]) hD
                              exact ih94 (k + 1) (by omega) (by omega) _ _ hP hD hS _ (lv_sub hl [3, 4, 5, 6, 7, 8, 9, 10, 1, 0] rfl)
                            · skip
                              have c11 := b2i_1 c11
                              refine lv_iload hx hb dX9_odds_143 (lv_at hl 1 rfl) ?_
                              refine lv_if_eq (tgt := 159) hx hb dX9_odds_145 (by decide) (fun c12 => ?_) (fun c12 => ?_)
                              · skip
                                have c12 := b2i_0 c12
                                refine lv_aload_n hx hb dX9_odds_159 rfl (lv_at hl 2 rfl) ?_
                                refine kget hC.1 hK (kP_app.mp hP).1 0 rfl rfl in_9 4 (by decide) (gw_in m_964 rfl) rfl dX9_odds_160 ?_
                                refine lv_iload_n hx hb dX9_odds_163 rfl (lv_at hl 3 rfl) ?_
                                refine lv_iload_n hx hb dX9_odds_164 rfl (lv_at hl 4 rfl) ?_
                                have hP : kP g (aW g (o 3) 45 (owR r i j q k) ++ (mO g o ab be lm ra ta ti fa um ua hh ++ (aW g (o 1) 3 rf ++ (aW g (o 2) 45 r ++ [])))) _ := kP_perm (((pmA _ (pmA _ (pm_swap _ _ _))).trans (pmA _ (pm_swap _ _ _))).trans (pm_swap _ _ _)) hP
                                have hD : va_D _ (aW g (o 3) 45 (owR r i j q k) ++ (mO g o ab be lm ra ta ti fa um ua hh ++ (aW g (o 1) 3 rf ++ (aW g (o 2) 45 r ++ [])))) := vD_perm (((pmA _ (pmA _ (pm_swap _ _ _))).trans (pmA _ (pm_swap _ _ _))).trans (pm_swap _ _ _)) hD
                                refine rw_v (run_S (As := [.ref (o 3), .int (i), .int (j)]) (rest := []) hC.1 ckX9_struck (kX9_struck l g (o 3) (owR r i j q k) i j hwk c11) (gw_in m_1142 rfl) (fb_rw _ _ _) (fun U hU hW => ⟨by rw [hU]; exact (kP_app.mpr ⟨(kP_app.mp hP).1, kP_nil⟩), kK_warm hW hK, vD_sub (sbA _ (sb0 _)) hD⟩) ⟨rfl, rfl, Nat.le_of_ble_eq_true rfl, Nat.le_of_ble_eq_true rfl⟩ rfl hl.1 rfl (Nat.le_of_ble_eq_true rfl) dX9_odds_165 ⟨Nat.le_of_ble_eq_true rfl, Nat.le_of_ble_eq_true rfl⟩) (adr_app aW_adr rfl) (asc1 _ _) (ww' := aW g (o 3) 45 (stk (owR r i j q k) i j) ++ (mO g o ab be lm ra ta ti fa um ua hh ++ (aW g (o 1) 3 rf ++ (aW g (o 2) 45 r ++ [])))) (asc1 _ _) hP hD hS (fun H locs hP hD hS => ?_)
                                refine lv_iinc (v := nI (k + 1)) (lv' := [(12, .int (nI (k + 1))), (10, .long (lN (owW D q (k + 1)))), (13, .int (b2i (hasB (nI q) (nI k)))), (0, .ref (o 0)), (1, .int (i)), (2, .int (j)), (3, .int (nI N)), (4, .int (nI D)), (5, .long (lN (10 ^ N))), (7, .long (lN (odS r i j D N q))), (9, .int (nI q))]) hx hb dX9_odds_168 hl (k := 10) rfl (inc_nI k) (by decide) rfl (fun ls hl => ?_)
                                refine lv_goto (tgt := 94) hx hb dX9_odds_171 (by decide) ?_
                                have e9 : owR r i j q (k + 1) = (stk (owR r i j q k) i j) := (if_pos c11).trans (if_neg (by rw [c10]; decide))
                                have hP : kP g (aW g (o 3) 45 (owR r i j q (k + 1)) ++ (mO g o ab be lm ra ta ti fa um ua hh ++ (aW g (o 1) 3 rf ++ (aW g (o 2) 45 r ++ [])))) _ := kP_eq (by rw [e9]) hP
                                have hD : va_D _ (aW g (o 3) 45 (owR r i j q (k + 1)) ++ (mO g o ab be lm ra ta ti fa um ua hh ++ (aW g (o 1) 3 rf ++ (aW g (o 2) 45 r ++ [])))) := vD_eq (by rw [e9]) hD
                                have hP : kP g (mO g o ab be lm ra ta ti fa um ua hh ++ (aW g (o 1) 3 rf ++ (aW g (o 2) 45 r ++ (aW g (o 3) 45 (owR r i j q (k + 1)) ++ [])))) _ := kP_perm (((pm_swap _ _ _).trans (pmA _ (pm_swap _ _ _))).trans (pmA _ (pmA _ (pm_swap _ _ _)))) hP
                                have hD : va_D _ (mO g o ab be lm ra ta ti fa um ua hh ++ (aW g (o 1) 3 rf ++ (aW g (o 2) 45 r ++ (aW g (o 3) 45 (owR r i j q (k + 1)) ++ [])))) := vD_perm (((pm_swap _ _ _).trans (pmA _ (pm_swap _ _ _))).trans (pmA _ (pmA _ (pm_swap _ _ _)))) hD
                                exact ih94 (k + 1) (by omega) (by omega) _ _ hP hD hS _ (lv_sub hl [3, 4, 5, 6, 7, 8, 9, 10, 1, 0] rfl)
                              · skip
                                have c12 := b2i_1 c12
                                exact absurd c10 (by rw [c12]; decide)
                          · skip
                            have c10 := b2i_1 c10
                            refine lv_iload hx hb dX9_odds_116 (lv_at hl 5 rfl) ?_
                            refine lv_i2l hx hb dX9_odds_118 rfl ?_
                            refine top_l (x := (nI D).toInt64) (y := lN D) (nI_l (by omega)) ?_
                            refine lv_goto (tgt := 128) hx hb dX9_odds_119 (by decide) ?_
                            refine lv_lmul hx hb dX9_odds_128 ?_
                            refine top_l (x := (lN (owW D q k)) * (lN D)) (y := lN (owW D q (k + 1))) ((lN_mul _ _).trans (congrArg lN (congrArg (fun z => owW D q k * z) (if_pos c10).symm))) ?_
                            refine lv_lstore (lv' := [(10, .long (lN (owW D q (k + 1)))), (13, .int (b2i (hasB (nI q) (nI k)))), (0, .ref (o 0)), (1, .int (i)), (2, .int (j)), (3, .int (nI N)), (4, .int (nI D)), (5, .long (lN (10 ^ N))), (7, .long (lN (odS r i j D N q))), (9, .int (nI q)), (12, .int (nI k))]) hx hb dX9_odds_129 hl (by decide) rfl (fun ls hl => ?_)
                            refine lv_aload_n hx hb dX9_odds_131 rfl (lv_at hl 2 rfl) ?_
                            refine kget hC.1 hK (kP_app.mp hP).1 0 rfl rfl in_9 4 (by decide) (gw_in m_964 rfl) rfl dX9_odds_132 ?_
                            refine lv_iload_n hx hb dX9_odds_135 rfl (lv_at hl 3 rfl) ?_
                            refine lv_iload_n hx hb dX9_odds_136 rfl (lv_at hl 4 rfl) ?_
                            refine ro_i (run_S (As := [.ref (o 3), .int (i), .int (j)]) (rest := []) hC.1 ckX9_canStrike (kX9_canStrike l g (o 3) (owR r i j q k) i j hwk) (gw_in m_1136 rfl) (fb_ro _ _ _) (fun U hU hW => ⟨by rw [hU]; exact (kP_app.mp (kP_app.mp (kP_app.mp (kP_app.mp hP).2).2).2).1, kK_warm hW hK⟩) ⟨rfl, rfl, Nat.le_of_ble_eq_true rfl, Nat.le_of_ble_eq_true rfl⟩ rfl hl.1 rfl (Nat.le_of_ble_eq_true rfl) dX9_odds_137 ⟨Nat.le_of_ble_eq_true rfl, Nat.le_of_ble_eq_true rfl⟩) ?_
                            refine lv_if_eq (tgt := 168) hx hb dX9_odds_140 (by decide) (fun c13 => ?_) (fun c13 => ?_)
                            · skip
                              have c13 := b2i_0 c13
                              refine lv_iinc (v := nI (k + 1)) (lv' := [(12, .int (nI (k + 1))), (10, .long (lN (owW D q (k + 1)))), (13, .int (b2i (hasB (nI q) (nI k)))), (0, .ref (o 0)), (1, .int (i)), (2, .int (j)), (3, .int (nI N)), (4, .int (nI D)), (5, .long (lN (10 ^ N))), (7, .long (lN (odS r i j D N q))), (9, .int (nI q))]) hx hb dX9_odds_168 hl (k := 10) rfl (inc_nI k) (by decide) rfl (fun ls hl => ?_)
                              refine lv_goto (tgt := 94) hx hb dX9_odds_171 (by decide) ?_
                              have e9 : owR r i j q (k + 1) = (owR r i j q k) := if_neg (by rw [c13]; decide)
                              have hP : kP g (mO g o ab be lm ra ta ti fa um ua hh ++ (aW g (o 1) 3 rf ++ (aW g (o 2) 45 r ++ (aW g (o 3) 45 (owR r i j q (k + 1)) ++ [])))) _ := kP_eq (by rw [e9]) hP
                              have hD : va_D _ (mO g o ab be lm ra ta ti fa um ua hh ++ (aW g (o 1) 3 rf ++ (aW g (o 2) 45 r ++ (aW g (o 3) 45 (owR r i j q (k + 1)) ++ [])))) := vD_eq (by rw [e9]) hD
                              exact ih94 (k + 1) (by omega) (by omega) _ _ hP hD hS _ (lv_sub hl [3, 4, 5, 6, 7, 8, 9, 10, 1, 0] rfl)
                            · skip
                              have c13 := b2i_1 c13
                              refine lv_iload hx hb dX9_odds_143 (lv_at hl 1 rfl) ?_
                              refine lv_if_eq (tgt := 159) hx hb dX9_odds_145 (by decide) (fun c14 => ?_) (fun c14 => ?_)
                              · skip
                                have c14 := b2i_0 c14
                                exact absurd c10 (by rw [c14]; decide)
                              · skip
                                have c14 := b2i_1 c14
                                refine lv_aload_n hx hb dX9_odds_148 rfl (lv_at hl 2 rfl) ?_
                                refine kget hC.1 hK (kP_app.mp hP).1 0 rfl rfl in_9 4 (by decide) (gw_in m_964 rfl) rfl dX9_odds_149 ?_
                                refine lv_iconst (v := 1) hx hb dX9_odds_152 rfl ?_
                                have hP : kP g (aW g (o 3) 45 (owR r i j q k) ++ (mO g o ab be lm ra ta ti fa um ua hh ++ (aW g (o 1) 3 rf ++ (aW g (o 2) 45 r ++ [])))) _ := kP_perm (((pmA _ (pmA _ (pm_swap _ _ _))).trans (pmA _ (pm_swap _ _ _))).trans (pm_swap _ _ _)) hP
                                have hD : va_D _ (aW g (o 3) 45 (owR r i j q k) ++ (mO g o ab be lm ra ta ti fa um ua hh ++ (aW g (o 1) 3 rf ++ (aW g (o 2) 45 r ++ [])))) := vD_perm (((pmA _ (pmA _ (pm_swap _ _ _))).trans (pmA _ (pm_swap _ _ _))).trans (pm_swap _ _ _)) hD
                                refine rw_v (run_S (As := [.ref (o 3), .int (1)]) (rest := []) hC.1 ckX9_passes (kX9_passes l g (o 3) (owR r i j q k) 1) (gw_in m_1168 rfl) (fb_rw _ _ _) (fun U hU hW => ⟨by rw [hU]; exact (kP_app.mpr ⟨(kP_app.mp hP).1, kP_nil⟩), kK_warm hW hK, vD_sub (sbA _ (sb0 _)) hD⟩) ⟨rfl, rfl, Nat.le_of_ble_eq_true rfl, Nat.le_of_ble_eq_true rfl⟩ rfl hl.1 rfl (Nat.le_of_ble_eq_true rfl) dX9_odds_153 ⟨Nat.le_of_ble_eq_true rfl, Nat.le_of_ble_eq_true rfl⟩) (adr_app aW_adr rfl) (asc1 _ _) (ww' := aW g (o 3) 45 (upd (owR r i j q k) 0 (if 9999 < (owR r i j q k) 0 + 1 then 9999 else (owR r i j q k) 0 + 1)) ++ (mO g o ab be lm ra ta ti fa um ua hh ++ (aW g (o 1) 3 rf ++ (aW g (o 2) 45 r ++ [])))) (asc1 _ _) hP hD hS (fun H locs hP hD hS => ?_)
                                refine lv_goto (tgt := 168) hx hb dX9_odds_156 (by decide) ?_
                                refine lv_iinc (v := nI (k + 1)) (lv' := [(12, .int (nI (k + 1))), (10, .long (lN (owW D q (k + 1)))), (13, .int (b2i (hasB (nI q) (nI k)))), (0, .ref (o 0)), (1, .int (i)), (2, .int (j)), (3, .int (nI N)), (4, .int (nI D)), (5, .long (lN (10 ^ N))), (7, .long (lN (odS r i j D N q))), (9, .int (nI q))]) hx hb dX9_odds_168 hl (k := 10) rfl (inc_nI k) (by decide) rfl (fun ls hl => ?_)
                                refine lv_goto (tgt := 94) hx hb dX9_odds_171 (by decide) ?_
                                have e9 : owR r i j q (k + 1) = (upd (owR r i j q k) 0 (if 9999 < (owR r i j q k) 0 + 1 then 9999 else (owR r i j q k) 0 + 1)) := (if_pos c13).trans (if_pos c10)
                                have hP : kP g (aW g (o 3) 45 (owR r i j q (k + 1)) ++ (mO g o ab be lm ra ta ti fa um ua hh ++ (aW g (o 1) 3 rf ++ (aW g (o 2) 45 r ++ [])))) _ := kP_eq (by rw [e9]) hP
                                have hD : va_D _ (aW g (o 3) 45 (owR r i j q (k + 1)) ++ (mO g o ab be lm ra ta ti fa um ua hh ++ (aW g (o 1) 3 rf ++ (aW g (o 2) 45 r ++ [])))) := vD_eq (by rw [e9]) hD
                                have hP : kP g (mO g o ab be lm ra ta ti fa um ua hh ++ (aW g (o 1) 3 rf ++ (aW g (o 2) 45 r ++ (aW g (o 3) 45 (owR r i j q (k + 1)) ++ [])))) _ := kP_perm (((pm_swap _ _ _).trans (pmA _ (pm_swap _ _ _))).trans (pmA _ (pmA _ (pm_swap _ _ _)))) hP
                                have hD : va_D _ (mO g o ab be lm ra ta ti fa um ua hh ++ (aW g (o 1) 3 rf ++ (aW g (o 2) 45 r ++ (aW g (o 3) 45 (owR r i j q (k + 1)) ++ [])))) := vD_perm (((pm_swap _ _ _).trans (pmA _ (pm_swap _ _ _))).trans (pmA _ (pmA _ (pm_swap _ _ _)))) hD
                                exact ih94 (k + 1) (by omega) (by omega) _ _ hP hD hS _ (lv_sub hl [3, 4, 5, 6, 7, 8, 9, 10, 1, 0] rfl)
                    have hP : kP g (aW g (o 2) 45 r ++ (aW g (o 3) 45 (owR r i j q 0) ++ (mO g o ab be lm ra ta ti fa um ua hh ++ (aW g (o 1) 3 rf ++ [])))) _ := kP_eq (by rfl) hP
                    have hD : va_D _ (aW g (o 2) 45 r ++ (aW g (o 3) 45 (owR r i j q 0) ++ (mO g o ab be lm ra ta ti fa um ua hh ++ (aW g (o 1) 3 rf ++ [])))) := vD_eq (by rfl) hD
                    have hl : lv_has ls 15 [(12, .int (0)), (10, .long (lN (owW D q 0))), (0, .ref (o 0)), (1, .int (i)), (2, .int (j)), (3, .int (nI N)), (4, .int (nI D)), (5, .long (lN (10 ^ N))), (7, .long (lN (odS r i j D N q))), (9, .int (nI q))] := by skip; exact hl
                    have hP : kP g (mO g o ab be lm ra ta ti fa um ua hh ++ (aW g (o 1) 3 rf ++ (aW g (o 2) 45 r ++ (aW g (o 3) 45 (owR r i j q 0) ++ [])))) _ := kP_perm ((((pmA _ (pm_swap _ _ _)).trans (pm_swap _ _ _)).trans (pmA _ (pmA _ (pm_swap _ _ _)))).trans (pmA _ (pm_swap _ _ _))) hP
                    have hD : va_D _ (mO g o ab be lm ra ta ti fa um ua hh ++ (aW g (o 1) 3 rf ++ (aW g (o 2) 45 r ++ (aW g (o 3) 45 (owR r i j q 0) ++ [])))) := vD_perm ((((pmA _ (pm_swap _ _ _)).trans (pm_swap _ _ _)).trans (pmA _ (pmA _ (pm_swap _ _ _)))).trans (pmA _ (pm_swap _ _ _))) hD
                    exact cut94 _ 0 (Nat.lt_succ_self _) (by omega) _ _ hP hD hS _ (lv_sub hl [2, 3, 4, 5, 6, 7, 8, 9, 1, 0] rfl)
              have hl : lv_has ls 15 [(9, .int (0)), (7, .long (lN (odS r i j D N 0))), (0, .ref (o 0)), (1, .int (i)), (2, .int (j)), (3, .int (nI N)), (4, .int (nI D)), (5, .long (lN (10 ^ N)))] := by skip; exact hl
              exact cut69 _ 0 tr (Nat.lt_succ_self _) (Nat.zero_le _) _ _ hP hD hS _ (lv_sub hl [2, 3, 4, 5, 6, 7, 1, 0] rfl)
            · skip
              have c4' := Int32.not_le.mp c4
              have hn9 : k < N := by rw [nI_leI (by omega) (by omega)] at c4; omega
              refine lv_lload hx hb dX9_odds_49 (lv_at hl 5 rfl) ?_
              refine lv_ldc2 (v := 10) hx hb hown (hts _ (gw_in m_1351 rfl)) dX9_odds_51 ?_
              refine lv_lmul hx hb dX9_odds_54 ?_
              refine top_l (x := (lN (10 ^ k)) * 10) (y := lN (10 ^ (k + 1))) ((lN_mul _ 10).trans (by rw [Nat.pow_succ])) ?_
              refine lv_lstore (lv' := [(5, .long (lN (10 ^ (k + 1)))), (0, .ref (o 0)), (1, .int (i)), (2, .int (j)), (3, .int (nI N)), (4, .int (nI D)), (7, .int (nI k))]) hx hb dX9_odds_55 hl (by decide) rfl (fun ls hl => ?_)
              refine lv_iinc (v := nI (k + 1)) (lv' := [(7, .int (nI (k + 1))), (5, .long (lN (10 ^ (k + 1)))), (0, .ref (o 0)), (1, .int (i)), (2, .int (j)), (3, .int (nI N)), (4, .int (nI D))]) hx hb dX9_odds_57 hl (k := 6) rfl (inc_nI k) (by decide) rfl (fun ls hl => ?_)
              refine lv_goto (tgt := 43) hx hb dX9_odds_60 (by decide) ?_
              exact ih43 (k + 1) (by omega) (by omega) _ _ hP hD hS _ (lv_sub hl [2, 3, 4, 5, 6, 1, 0] rfl)
        have hl : lv_has ls 15 [(7, .int (0)), (5, .long (lN (10 ^ 0))), (0, .ref (o 0)), (1, .int (i)), (2, .int (j)), (3, .int (nI N)), (4, .int (nI D))] := by skip; exact hl
        exact cut43 _ 0 (Nat.lt_succ_self _) (by omega) _ _ hP hD hS _ (lv_sub hl [2, 3, 4, 5, 6, 1, 0] rfl)
      · skip
        have c3 := b2i_0 c3
        refine lv_aload_n hx hb dX9_odds_30 rfl (lv_at hl 0 rfl) ?_
        refine lv_bipush (v := -2) hx hb dX9_odds_31 rfl ?_
        refine rw_i (run_V (As := [.int (-2)]) (rest := []) hC.1 ckX9_bad (kX9_bad l g o ab be lm ra ta ti fa um ua hh rf (-2)) (gw_in m_1041 rfl) (fb_rw _ _ _) (va_recv hK.1 (kP_app.mp hP).1 (q0 := 0) rfl rfl) (fun U hU hW => ⟨by rw [hU]; exact (kP_app.mpr ⟨(kP_app.mp hP).1, (kP_app.mpr ⟨(kP_app.mp (kP_app.mp hP).2).1, kP_nil⟩)⟩), kK_warm hW hK, vD_sub (sbA _ (sbA _ (sb0 _))) hD⟩) ⟨rfl, rfl, Nat.le_of_ble_eq_true rfl, Nat.le_of_ble_eq_true rfl⟩ rfl hl.1 rfl (Nat.le_of_ble_eq_true rfl) dX9_odds_33 ⟨Nat.le_of_ble_eq_true rfl, Nat.le_of_ble_eq_true rfl⟩) (adr_app rfl (adr_app aW_adr rfl)) (asc2 _ _ _) (ww' := mO g o ab be lm ra ta ti fa um ua hh ++ (aW g (o 1) 3 (upd rf 0 (rf 0 + 1)) ++ (aW g (o 2) 45 r ++ (aW g (o 3) 45 tr ++ [])))) (asc2 _ _ _) hP hD hS (fun H locs hP hD hS => ?_)
        exact ret_rxi (S := (Nat → Int32)) tr hx hb hr hlk (by simp only [c1, c2, c3, if_true, if_false, eq_self, Bool.false_eq_true, Bool.and_true, Bool.true_and, Bool.and_false, Bool.false_and]) (kP_eq (by simp only [c1, c2, c3, if_true, if_false, eq_self, Bool.false_eq_true, Bool.and_true, Bool.true_and, Bool.and_false, Bool.false_and]) hP) hS dX9_odds_36
set_option maxHeartbeats 4000000 in
set_option maxRecDepth 100000 in
theorem kX9_days (l : Launch) (g : gG) (o : Nat → Nat) (ab be : Int64) (lm ra ta : Nat) (ti fa : Int32) (um ua : Nat) (hh : Int64) (rf : Nat → Int32) (r tr : Nat → Int32) (x y : Int32) (hw : Wf r) : Met l yX9_days (.code yX9_days cX9_days 8 (some .int) :: gw) (rmN 3) (va_Pc [.ref (o 0), .int (x), .int (y)] (rwPre g (mO g o ab be lm ra ta ti fa um ua hh ++ (aW g (o 1) 3 rf ++ (aW g (o 2) 45 r ++ (aW g (o 3) 45 tr ++ [])))))) (rxQi g (mO g o ab be lm ra ta ti fa um ua hh ++ (aW g (o 1) 3 rf ++ (aW g (o 2) 45 r ++ (aW g (o 3) 45 tr ++ [])))) (fun u9 : (Nat → Int32) => mO g o ab be lm ra ta ti fa um ua hh ++ (aW g (o 1) 3 (if (wth x 0 999999 && wth y 0 60) = true then rf else upd rf 0 (rf 0 + 1)) ++ (aW g (o 2) 45 r ++ (aW g (o 3) 45 u9 ++ [])))) (if (wth x 0 999999 && wth y 0 60) = true then bcF (setB (fun j => mBrk (dyM r x (cl y)).2 (nI j)) (cl ((dyM r x (cl y)).2 2))) else -2)) 0 0 (dm (mO g o ab be lm ra ta ti fa um ua hh ++ (aW g (o 1) 3 rf ++ (aW g (o 2) 45 r ++ (aW g (o 3) 45 tr ++ []))))) := by
  refine met_start (by decide) (Nat.le_of_ble_eq_true rfl) ?_
  intro pp ee ss mm bl mt cd hC hpre ls hl
  obtain ⟨⟨hx, hb, hml, hown, hts⟩, hr, hlk, hnm⟩ := id hC
  have hl : lv_has ls 8 [(0, .ref (o 0)), (1, .int (x)), (2, .int (y))] := hl
  obtain ⟨hP, hK, hD⟩ := hpre
  have hS : va_S (dm (mO g o ab be lm ra ta ti fa um ua hh ++ (aW g (o 1) 3 rf ++ (aW g (o 2) 45 r ++ (aW g (o 3) 45 tr ++ []))))) ss.heap ss.heap [] := va_S.rf
  have hD := vD_self hD
  refine lv_iload_n hx hb dX9_days_0 rfl (lv_at hl 1 rfl) ?_
  refine lv_iconst (v := 0) hx hb dX9_days_1 rfl ?_
  refine lv_ldcw (v := 999999) hx hb hown (hts _ (gw_in m_1356 rfl)) dX9_days_2 ?_
  refine ro_i (run_S (As := [.int (x), .int (0), .int (999999)]) (rest := []) hC.1 ckX9_in (kX9_in l x 0 999999) (gw_in m_1038 rfl) (fb_nil _) (fun _ _ _ => trivial) ⟨rfl, rfl, Nat.le_of_ble_eq_true rfl, Nat.le_of_ble_eq_true rfl⟩ rfl hl.1 rfl (Nat.le_of_ble_eq_true rfl) dX9_days_5 ⟨Nat.le_of_ble_eq_true rfl, Nat.le_of_ble_eq_true rfl⟩) ?_
  refine lv_if_eq (tgt := 21) hx hb dX9_days_8 (by decide) (fun c1 => ?_) (fun c1 => ?_)
  · skip
    have c1 := b2i_0 c1
    refine lv_aload_n hx hb dX9_days_21 rfl (lv_at hl 0 rfl) ?_
    refine lv_bipush (v := -2) hx hb dX9_days_22 rfl ?_
    refine rw_i (run_V (As := [.int (-2)]) (rest := []) hC.1 ckX9_bad (kX9_bad l g o ab be lm ra ta ti fa um ua hh rf (-2)) (gw_in m_1041 rfl) (fb_rw _ _ _) (va_recv hK.1 (kP_app.mp hP).1 (q0 := 0) rfl rfl) (fun U hU hW => ⟨by rw [hU]; exact (kP_app.mpr ⟨(kP_app.mp hP).1, (kP_app.mpr ⟨(kP_app.mp (kP_app.mp hP).2).1, kP_nil⟩)⟩), kK_warm hW hK, vD_sub (sbA _ (sbA _ (sb0 _))) hD⟩) ⟨rfl, rfl, Nat.le_of_ble_eq_true rfl, Nat.le_of_ble_eq_true rfl⟩ rfl hl.1 rfl (Nat.le_of_ble_eq_true rfl) dX9_days_24 ⟨Nat.le_of_ble_eq_true rfl, Nat.le_of_ble_eq_true rfl⟩) (adr_app rfl (adr_app aW_adr rfl)) (asc2 _ _ _) (ww' := mO g o ab be lm ra ta ti fa um ua hh ++ (aW g (o 1) 3 (upd rf 0 (rf 0 + 1)) ++ (aW g (o 2) 45 r ++ (aW g (o 3) 45 tr ++ [])))) (asc2 _ _ _) hP hD hS (fun H locs hP hD hS => ?_)
    exact ret_rxi (S := (Nat → Int32)) tr hx hb hr hlk (by simp only [c1, if_true, if_false, eq_self, Bool.false_eq_true, Bool.and_true, Bool.true_and, Bool.and_false, Bool.false_and]) (kP_eq (by simp only [c1, if_true, if_false, eq_self, Bool.false_eq_true, Bool.and_true, Bool.true_and, Bool.and_false, Bool.false_and]) hP) hS dX9_days_27
  · skip
    have c1 := b2i_1 c1
    refine lv_iload_n hx hb dX9_days_11 rfl (lv_at hl 2 rfl) ?_
    refine lv_iconst (v := 0) hx hb dX9_days_12 rfl ?_
    refine lv_bipush (v := 60) hx hb dX9_days_13 rfl ?_
    refine ro_i (run_S (As := [.int (y), .int (0), .int (60)]) (rest := []) hC.1 ckX9_in (kX9_in l y 0 60) (gw_in m_1038 rfl) (fb_nil _) (fun _ _ _ => trivial) ⟨rfl, rfl, Nat.le_of_ble_eq_true rfl, Nat.le_of_ble_eq_true rfl⟩ rfl hl.1 rfl (Nat.le_of_ble_eq_true rfl) dX9_days_15 ⟨Nat.le_of_ble_eq_true rfl, Nat.le_of_ble_eq_true rfl⟩) ?_
    refine lv_if_ne (tgt := 28) hx hb dX9_days_18 (by decide) (fun c2 => ?_) (fun c2 => ?_)
    · skip
      have c2 := b2i_1 c2
      obtain ⟨N, hN6, hye⟩ := wth_nat (m := 60) (by omega) c2
      have hl : lv_has ls 8 [(0, .ref (o 0)), (1, .int (x)), (2, .int (nI N))] := by rw [← hye]; exact hl
      have hNc : cl y = N := by rw [hye]; exact cl_nI (by omega)
      refine lv_aload_n hx hb dX9_days_28 rfl (lv_at hl 0 rfl) ?_
      refine kget hC.1 hK (kP_app.mp hP).1 0 rfl rfl in_9 3 (by decide) (gw_in m_963 rfl) rfl dX9_days_29 ?_
      refine lv_aload_n hx hb dX9_days_32 rfl (lv_at hl 0 rfl) ?_
      refine kget hC.1 hK (kP_app.mp hP).1 0 rfl rfl in_9 4 (by decide) (gw_in m_964 rfl) rfl dX9_days_33 ?_
      have hP : kP g (aW g (o 2) 45 r ++ (aW g (o 3) 45 tr ++ (mO g o ab be lm ra ta ti fa um ua hh ++ (aW g (o 1) 3 rf ++ [])))) _ := kP_perm ((((pmA _ (pm_swap _ _ _)).trans (pm_swap _ _ _)).trans (pmA _ (pmA _ (pm_swap _ _ _)))).trans (pmA _ (pm_swap _ _ _))) hP
      have hD : va_D _ (aW g (o 2) 45 r ++ (aW g (o 3) 45 tr ++ (mO g o ab be lm ra ta ti fa um ua hh ++ (aW g (o 1) 3 rf ++ [])))) := vD_perm ((((pmA _ (pm_swap _ _ _)).trans (pm_swap _ _ _)).trans (pmA _ (pmA _ (pm_swap _ _ _)))).trans (pmA _ (pm_swap _ _ _))) hD
      refine rw_v (run_S (As := [.ref (o 2), .ref (o 3)]) (rest := []) hC.1 ckX9_copies (kX9_copies l g (o 2) (o 3) r tr) (gw_in m_1175 rfl) (fb_rw _ _ _) (fun U hU hW => ⟨by rw [hU]; exact (kP_app.mpr ⟨(kP_app.mp hP).1, (kP_app.mpr ⟨(kP_app.mp (kP_app.mp hP).2).1, kP_nil⟩)⟩), kK_warm hW hK, vD_sub (sbA _ (sbA _ (sb0 _))) hD⟩) ⟨rfl, rfl, Nat.le_of_ble_eq_true rfl, Nat.le_of_ble_eq_true rfl⟩ rfl hl.1 rfl (Nat.le_of_ble_eq_true rfl) dX9_days_36 ⟨Nat.le_of_ble_eq_true rfl, Nat.le_of_ble_eq_true rfl⟩) (adr_app rfl (adr_app aW_adr rfl)) (asc2 _ _ _) (ww' := aW g (o 2) 45 r ++ (aW g (o 3) 45 r ++ (mO g o ab be lm ra ta ti fa um ua hh ++ (aW g (o 1) 3 rf ++ [])))) (asc2 _ _ _) hP hD hS (fun H locs hP hD hS => ?_)
      refine lv_iload_n hx hb dX9_days_39 rfl (lv_at hl 1 rfl) ?_
      refine lv_i2l hx hb dX9_days_40 rfl ?_
      refine lv_lstore_n (lv' := [(3, .long (x.toInt64)), (0, .ref (o 0)), (1, .int (x)), (2, .int (nI N))]) hx hb dX9_days_41 rfl hl (by decide) rfl (fun ls hl => ?_)
      refine lv_iconst (v := 0) hx hb dX9_days_42 rfl ?_
      refine lv_istore (lv' := [(5, .int (0)), (3, .long (x.toInt64)), (0, .ref (o 0)), (1, .int (x)), (2, .int (nI N))]) hx hb dX9_days_43 hl (by decide) rfl (fun ls hl => ?_)
      have cut45 : ∀ kk : Nat, ∀ (n : Nat), N + 1 - n < kk → (hn : n ≤ N) → ∀ (H : Heap) (locs : List Loc), kP g (mO g o ab be lm ra ta ti fa um ua hh ++ (aW g (o 1) 3 rf ++ (aW g (o 2) 45 r ++ (aW g (o 3) 45 (dyM r x n).2 ++ [])))) H → va_D (dm (mO g o ab be lm ra ta ti fa um ua hh ++ (aW g (o 1) 3 rf ++ (aW g (o 2) 45 r ++ (aW g (o 3) 45 tr ++ []))))) (mO g o ab be lm ra ta ti fa um ua hh ++ (aW g (o 1) 3 rf ++ (aW g (o 2) 45 r ++ (aW g (o 3) 45 (dyM r x n).2 ++ [])))) → va_S (dm (mO g o ab be lm ra ta ti fa um ua hh ++ (aW g (o 1) 3 rf ++ (aW g (o 2) 45 r ++ (aW g (o 3) 45 tr ++ []))))) ss.heap H locs → ∀ (ls : Array Slot), lv_has ls 8 [(0, .ref (o 0)), (1, .int (x)), (2, .int (nI N)), (3, .long ((dyM r x n).1)), (5, .int (nI n))] → W pp l ee (rmN 3) ss mm ([.ref (o 0), .int (x), .int (y)] : List Value).toArray bl mt cd H locs 0 0 (MQ bl (rxQi g (mO g o ab be lm ra ta ti fa um ua hh ++ (aW g (o 1) 3 rf ++ (aW g (o 2) 45 r ++ (aW g (o 3) 45 tr ++ [])))) (fun u9 : (Nat → Int32) => mO g o ab be lm ra ta ti fa um ua hh ++ (aW g (o 1) 3 (if (wth x 0 999999 && wth y 0 60) = true then rf else upd rf 0 (rf 0 + 1)) ++ (aW g (o 2) 45 r ++ (aW g (o 3) 45 u9 ++ [])))) (if (wth x 0 999999 && wth y 0 60) = true then bcF (setB (fun j => mBrk (dyM r x (cl y)).2 (nI j)) (cl ((dyM r x (cl y)).2 2))) else -2)) ([.ref (o 0), .int (x), .int (y)] : List Value).toArray ss 0 0 (dm (mO g o ab be lm ra ta ti fa um ua hh ++ (aW g (o 1) 3 rf ++ (aW g (o 2) 45 r ++ (aW g (o 3) 45 tr ++ [])))))) (F0 mm 45 ls []) := by
        intro kk
        induction kk with
        | zero => intro n hmu; exact absurd hmu (Nat.not_lt_zero _)
        | succ kk ih45 =>
          intro n hmu hn H locs hP hD hS ls hl
          have hwn := Wf_dyM (x := x) hw n
          refine lv_iload hx hb dX9_days_45 (lv_at hl 4 rfl) ?_
          refine lv_iload_n hx hb dX9_days_47 rfl (lv_at hl 2 rfl) ?_
          refine lv_icmp_ge (tgt := 131) hx hb dX9_days_48 (by decide) (fun c3 => ?_) (fun c3 => ?_)
          · skip
            have c3' := Int32.not_lt.mpr c3
            have hn9 : n = N := by rw [nI_leI (by omega) (by omega)] at c3; omega
            have hP : kP g (mO g o ab be lm ra ta ti fa um ua hh ++ (aW g (o 1) 3 rf ++ (aW g (o 2) 45 r ++ (aW g (o 3) 45 (dyM r x N).2 ++ [])))) _ := kP_eq (by rw [hn9]) hP
            have hD : va_D _ (mO g o ab be lm ra ta ti fa um ua hh ++ (aW g (o 1) 3 rf ++ (aW g (o 2) 45 r ++ (aW g (o 3) 45 (dyM r x N).2 ++ [])))) := vD_eq (by rw [hn9]) hD
            have hwN := Wf_dyM (x := x) hw N
            obtain ⟨S, hS6, hSe⟩ := set_brk hwN
            refine lv_aload_n hx hb dX9_days_131 rfl (lv_at hl 0 rfl) ?_
            refine kget hC.1 hK (kP_app.mp hP).1 0 rfl rfl in_9 4 (by decide) (gw_in m_964 rfl) rfl dX9_days_132 ?_
            refine ro_i (run_S (As := [.ref (o 3)]) (rest := []) hC.1 ckX9_brokenOf (kX9_brokenOf l g (o 3) (dyM r x N).2 hwN) (gw_in m_1363 rfl) (fb_ro _ _ _) (fun U hU hW => ⟨by rw [hU]; exact (kP_app.mp (kP_app.mp (kP_app.mp (kP_app.mp hP).2).2).2).1, kK_warm hW hK⟩) ⟨rfl, rfl, Nat.le_of_ble_eq_true rfl, Nat.le_of_ble_eq_true rfl⟩ rfl hl.1 rfl (Nat.le_of_ble_eq_true rfl) dX9_days_135 ⟨Nat.le_of_ble_eq_true rfl, Nat.le_of_ble_eq_true rfl⟩) ?_
            refine top_i (x := setB (fun j => mBrk (dyM r x N).2 (nI j)) (cl ((dyM r x N).2 2))) (y := nI S) hSe ?_
            refine ro_i (run_S (As := [.int (nI S)]) (rest := []) hC.1 ckX9_bits (kX9_bits l S hS6) (gw_in m_1258 rfl) (fb_nil _) (fun _ _ _ => trivial) ⟨rfl, rfl, Nat.le_of_ble_eq_true rfl, Nat.le_of_ble_eq_true rfl⟩ rfl hl.1 rfl (Nat.le_of_ble_eq_true rfl) dX9_days_138 ⟨Nat.le_of_ble_eq_true rfl, Nat.le_of_ble_eq_true rfl⟩) ?_
            exact ret_rxi (S := (Nat → Int32)) (dyM r x N).2 hx hb hr hlk (by rw [if_pos (by simp only [c1, c2]; rfl), hNc, hSe]) (kP_eq (by rw [if_pos (by simp only [c1, c2]; rfl)]) hP) hS dX9_days_141
          · skip
            have c3' := Int32.not_le.mp c3
            have hn9 : n < N := by rw [nI_leI (by omega) (by omega)] at c3; omega
            refine lv_lload_n hx hb dX9_days_51 rfl (lv_at hl 3 rfl) ?_
            refine lv_ldc2 (v := 1103515245) hx hb hown (hts _ (gw_in m_1357 rfl)) dX9_days_52 ?_
            refine lv_lmul hx hb dX9_days_55 ?_
            refine lv_ldc2 (v := 12345) hx hb hown (hts _ (gw_in m_1358 rfl)) dX9_days_56 ?_
            refine lv_ladd hx hb dX9_days_59 ?_
            refine lv_ldc2 (v := 2147483648) hx hb hown (hts _ (gw_in m_1359 rfl)) dX9_days_60 ?_
            refine lv_lrem hx hb dX9_days_63 (by decide) ?_
            refine top_l (x := (((dyM r x n).1 * 1103515245) + 12345) - (((dyM r x n).1 * 1103515245) + 12345) / 2147483648 * 2147483648) (y := lcg (dyM r x n).1) rfl ?_
            refine lv_lstore_n (lv' := [(3, .long (lcg (dyM r x n).1)), (0, .ref (o 0)), (1, .int (x)), (2, .int (nI N)), (5, .int (nI n))]) hx hb dX9_days_64 rfl hl (by decide) rfl (fun ls hl => ?_)
            refine lv_lload_n hx hb dX9_days_65 rfl (lv_at hl 0 rfl) ?_
            refine lv_ldc2 (v := 65536) hx hb hown (hts _ (gw_in m_1360 rfl)) dX9_days_66 ?_
            refine lv_ldiv hx hb dX9_days_69 (by decide) ?_
            refine lv_ldc2 (v := 6) hx hb hown (hts _ (gw_in m_1361 rfl)) dX9_days_70 ?_
            refine lv_lrem hx hb dX9_days_73 (by decide) ?_
            refine lv_l2i hx hb dX9_days_74 rfl ?_
            refine top_i (x := (((lcg (dyM r x n).1) / 65536) - ((lcg (dyM r x n).1) / 65536) / 6 * 6).toInt32) (y := diI (lcg (dyM r x n).1)) rfl ?_
            refine lv_istore (lv' := [(6, .int (diI (lcg (dyM r x n).1))), (3, .long (lcg (dyM r x n).1)), (0, .ref (o 0)), (1, .int (x)), (2, .int (nI N)), (5, .int (nI n))]) hx hb dX9_days_75 hl (by decide) rfl (fun ls hl => ?_)
            refine lv_lload_n hx hb dX9_days_77 rfl (lv_at hl 1 rfl) ?_
            refine lv_ldc2 (v := 1048576) hx hb hown (hts _ (gw_in m_1362 rfl)) dX9_days_78 ?_
            refine lv_ldiv hx hb dX9_days_81 (by decide) ?_
            refine lv_ldc2 (v := 6) hx hb hown (hts _ (gw_in m_1361 rfl)) dX9_days_82 ?_
            refine lv_lrem hx hb dX9_days_85 (by decide) ?_
            refine lv_l2i hx hb dX9_days_86 rfl ?_
            refine top_i (x := (((lcg (dyM r x n).1) / 1048576) - ((lcg (dyM r x n).1) / 1048576) / 6 * 6).toInt32) (y := djI (lcg (dyM r x n).1)) rfl ?_
            refine lv_istore (lv' := [(7, .int (djI (lcg (dyM r x n).1))), (6, .int (diI (lcg (dyM r x n).1))), (3, .long (lcg (dyM r x n).1)), (0, .ref (o 0)), (1, .int (x)), (2, .int (nI N)), (5, .int (nI n))]) hx hb dX9_days_87 hl (by decide) rfl (fun ls hl => ?_)
            refine lv_aload_n hx hb dX9_days_89 rfl (lv_at hl 3 rfl) ?_
            refine kget hC.1 hK (kP_app.mp hP).1 0 rfl rfl in_9 4 (by decide) (gw_in m_964 rfl) rfl dX9_days_90 ?_
            refine lv_iload hx hb dX9_days_93 (lv_at hl 1 rfl) ?_
            refine lv_iload hx hb dX9_days_95 (lv_at hl 0 rfl) ?_
            refine ro_i (run_S (As := [.ref (o 3), .int (diI (lcg (dyM r x n).1)), .int (djI (lcg (dyM r x n).1))]) (rest := []) hC.1 ckX9_canStrike (kX9_canStrike l g (o 3) (dyM r x n).2 (diI (lcg (dyM r x n).1)) (djI (lcg (dyM r x n).1)) hwn) (gw_in m_1136 rfl) (fb_ro _ _ _) (fun U hU hW => ⟨by rw [hU]; exact (kP_app.mp (kP_app.mp (kP_app.mp (kP_app.mp hP).2).2).2).1, kK_warm hW hK⟩) ⟨rfl, rfl, Nat.le_of_ble_eq_true rfl, Nat.le_of_ble_eq_true rfl⟩ rfl hl.1 rfl (Nat.le_of_ble_eq_true rfl) dX9_days_97 ⟨Nat.le_of_ble_eq_true rfl, Nat.le_of_ble_eq_true rfl⟩) ?_
            refine lv_if_eq (tgt := 117) hx hb dX9_days_100 (by decide) (fun c4 => ?_) (fun c4 => ?_)
            · skip
              have c4 := b2i_0 c4
              refine lv_aload_n hx hb dX9_days_117 rfl (lv_at hl 3 rfl) ?_
              refine kget hC.1 hK (kP_app.mp hP).1 0 rfl rfl in_9 4 (by decide) (gw_in m_964 rfl) rfl dX9_days_118 ?_
              refine lv_iconst (v := 1) hx hb dX9_days_121 rfl ?_
              have hP : kP g (aW g (o 3) 45 (dyM r x n).2 ++ (mO g o ab be lm ra ta ti fa um ua hh ++ (aW g (o 1) 3 rf ++ (aW g (o 2) 45 r ++ [])))) _ := kP_perm (((pmA _ (pmA _ (pm_swap _ _ _))).trans (pmA _ (pm_swap _ _ _))).trans (pm_swap _ _ _)) hP
              have hD : va_D _ (aW g (o 3) 45 (dyM r x n).2 ++ (mO g o ab be lm ra ta ti fa um ua hh ++ (aW g (o 1) 3 rf ++ (aW g (o 2) 45 r ++ [])))) := vD_perm (((pmA _ (pmA _ (pm_swap _ _ _))).trans (pmA _ (pm_swap _ _ _))).trans (pm_swap _ _ _)) hD
              refine rw_v (run_S (As := [.ref (o 3), .int (1)]) (rest := []) hC.1 ckX9_passes (kX9_passes l g (o 3) (dyM r x n).2 1) (gw_in m_1168 rfl) (fb_rw _ _ _) (fun U hU hW => ⟨by rw [hU]; exact (kP_app.mpr ⟨(kP_app.mp hP).1, kP_nil⟩), kK_warm hW hK, vD_sub (sbA _ (sb0 _)) hD⟩) ⟨rfl, rfl, Nat.le_of_ble_eq_true rfl, Nat.le_of_ble_eq_true rfl⟩ rfl hl.1 rfl (Nat.le_of_ble_eq_true rfl) dX9_days_122 ⟨Nat.le_of_ble_eq_true rfl, Nat.le_of_ble_eq_true rfl⟩) (adr_app aW_adr rfl) (asc1 _ _) (ww' := aW g (o 3) 45 (upd (dyM r x n).2 0 (if 9999 < (dyM r x n).2 0 + 1 then 9999 else (dyM r x n).2 0 + 1)) ++ (mO g o ab be lm ra ta ti fa um ua hh ++ (aW g (o 1) 3 rf ++ (aW g (o 2) 45 r ++ [])))) (asc1 _ _) hP hD hS (fun H locs hP hD hS => ?_)
              refine lv_iinc (v := nI (n + 1)) (lv' := [(5, .int (nI (n + 1))), (7, .int (djI (lcg (dyM r x n).1))), (6, .int (diI (lcg (dyM r x n).1))), (3, .long (lcg (dyM r x n).1)), (0, .ref (o 0)), (1, .int (x)), (2, .int (nI N))]) hx hb dX9_days_125 hl (k := 6) rfl (inc_nI n) (by decide) rfl (fun ls hl => ?_)
              refine lv_goto (tgt := 45) hx hb dX9_days_128 (by decide) ?_
              have e9 : (dyM r x (n + 1)).2 = (upd (dyM r x n).2 0 (if 9999 < (dyM r x n).2 0 + 1 then 9999 else (dyM r x n).2 0 + 1)) := if_neg (by rw [c4]; decide)
              have e8 : (dyM r x (n + 1)).1 = lcg (dyM r x n).1 := rfl
              have hP : kP g (aW g (o 3) 45 (dyM r x (n + 1)).2 ++ (mO g o ab be lm ra ta ti fa um ua hh ++ (aW g (o 1) 3 rf ++ (aW g (o 2) 45 r ++ [])))) _ := kP_eq (by rw [e9]) hP
              have hD : va_D _ (aW g (o 3) 45 (dyM r x (n + 1)).2 ++ (mO g o ab be lm ra ta ti fa um ua hh ++ (aW g (o 1) 3 rf ++ (aW g (o 2) 45 r ++ [])))) := vD_eq (by rw [e9]) hD
              have hl : lv_has ls 8 [(5, .int (nI (n + 1))), (7, .int (djI (lcg (dyM r x n).1))), (6, .int (diI (lcg (dyM r x n).1))), (3, .long ((dyM r x (n + 1)).1)), (0, .ref (o 0)), (1, .int (x)), (2, .int (nI N))] := by rw [e8]; exact hl
              have hP : kP g (mO g o ab be lm ra ta ti fa um ua hh ++ (aW g (o 1) 3 rf ++ (aW g (o 2) 45 r ++ (aW g (o 3) 45 (dyM r x (n + 1)).2 ++ [])))) _ := kP_perm (((pm_swap _ _ _).trans (pmA _ (pm_swap _ _ _))).trans (pmA _ (pmA _ (pm_swap _ _ _)))) hP
              have hD : va_D _ (mO g o ab be lm ra ta ti fa um ua hh ++ (aW g (o 1) 3 rf ++ (aW g (o 2) 45 r ++ (aW g (o 3) 45 (dyM r x (n + 1)).2 ++ [])))) := vD_perm (((pm_swap _ _ _).trans (pmA _ (pm_swap _ _ _))).trans (pmA _ (pmA _ (pm_swap _ _ _)))) hD
              exact ih45 (n + 1) (by omega) (by omega) _ _ hP hD hS _ (lv_sub hl [4, 5, 6, 3, 0] rfl)
            · skip
              have c4 := b2i_1 c4
              refine lv_aload_n hx hb dX9_days_103 rfl (lv_at hl 3 rfl) ?_
              refine kget hC.1 hK (kP_app.mp hP).1 0 rfl rfl in_9 4 (by decide) (gw_in m_964 rfl) rfl dX9_days_104 ?_
              refine lv_iload hx hb dX9_days_107 (lv_at hl 1 rfl) ?_
              refine lv_iload hx hb dX9_days_109 (lv_at hl 0 rfl) ?_
              have hP : kP g (aW g (o 3) 45 (dyM r x n).2 ++ (mO g o ab be lm ra ta ti fa um ua hh ++ (aW g (o 1) 3 rf ++ (aW g (o 2) 45 r ++ [])))) _ := kP_perm (((pmA _ (pmA _ (pm_swap _ _ _))).trans (pmA _ (pm_swap _ _ _))).trans (pm_swap _ _ _)) hP
              have hD : va_D _ (aW g (o 3) 45 (dyM r x n).2 ++ (mO g o ab be lm ra ta ti fa um ua hh ++ (aW g (o 1) 3 rf ++ (aW g (o 2) 45 r ++ [])))) := vD_perm (((pmA _ (pmA _ (pm_swap _ _ _))).trans (pmA _ (pm_swap _ _ _))).trans (pm_swap _ _ _)) hD
              refine rw_v (run_S (As := [.ref (o 3), .int (diI (lcg (dyM r x n).1)), .int (djI (lcg (dyM r x n).1))]) (rest := []) hC.1 ckX9_struck (kX9_struck l g (o 3) (dyM r x n).2 (diI (lcg (dyM r x n).1)) (djI (lcg (dyM r x n).1)) hwn c4) (gw_in m_1142 rfl) (fb_rw _ _ _) (fun U hU hW => ⟨by rw [hU]; exact (kP_app.mpr ⟨(kP_app.mp hP).1, kP_nil⟩), kK_warm hW hK, vD_sub (sbA _ (sb0 _)) hD⟩) ⟨rfl, rfl, Nat.le_of_ble_eq_true rfl, Nat.le_of_ble_eq_true rfl⟩ rfl hl.1 rfl (Nat.le_of_ble_eq_true rfl) dX9_days_111 ⟨Nat.le_of_ble_eq_true rfl, Nat.le_of_ble_eq_true rfl⟩) (adr_app aW_adr rfl) (asc1 _ _) (ww' := aW g (o 3) 45 (stk (dyM r x n).2 (diI (lcg (dyM r x n).1)) (djI (lcg (dyM r x n).1))) ++ (mO g o ab be lm ra ta ti fa um ua hh ++ (aW g (o 1) 3 rf ++ (aW g (o 2) 45 r ++ [])))) (asc1 _ _) hP hD hS (fun H locs hP hD hS => ?_)
              refine lv_goto (tgt := 125) hx hb dX9_days_114 (by decide) ?_
              refine lv_iinc (v := nI (n + 1)) (lv' := [(5, .int (nI (n + 1))), (7, .int (djI (lcg (dyM r x n).1))), (6, .int (diI (lcg (dyM r x n).1))), (3, .long (lcg (dyM r x n).1)), (0, .ref (o 0)), (1, .int (x)), (2, .int (nI N))]) hx hb dX9_days_125 hl (k := 6) rfl (inc_nI n) (by decide) rfl (fun ls hl => ?_)
              refine lv_goto (tgt := 45) hx hb dX9_days_128 (by decide) ?_
              have e9 : (dyM r x (n + 1)).2 = (stk (dyM r x n).2 (diI (lcg (dyM r x n).1)) (djI (lcg (dyM r x n).1))) := if_pos c4
              have e8 : (dyM r x (n + 1)).1 = lcg (dyM r x n).1 := rfl
              have hP : kP g (aW g (o 3) 45 (dyM r x (n + 1)).2 ++ (mO g o ab be lm ra ta ti fa um ua hh ++ (aW g (o 1) 3 rf ++ (aW g (o 2) 45 r ++ [])))) _ := kP_eq (by rw [e9]) hP
              have hD : va_D _ (aW g (o 3) 45 (dyM r x (n + 1)).2 ++ (mO g o ab be lm ra ta ti fa um ua hh ++ (aW g (o 1) 3 rf ++ (aW g (o 2) 45 r ++ [])))) := vD_eq (by rw [e9]) hD
              have hl : lv_has ls 8 [(5, .int (nI (n + 1))), (7, .int (djI (lcg (dyM r x n).1))), (6, .int (diI (lcg (dyM r x n).1))), (3, .long ((dyM r x (n + 1)).1)), (0, .ref (o 0)), (1, .int (x)), (2, .int (nI N))] := by rw [e8]; exact hl
              have hP : kP g (mO g o ab be lm ra ta ti fa um ua hh ++ (aW g (o 1) 3 rf ++ (aW g (o 2) 45 r ++ (aW g (o 3) 45 (dyM r x (n + 1)).2 ++ [])))) _ := kP_perm (((pm_swap _ _ _).trans (pmA _ (pm_swap _ _ _))).trans (pmA _ (pmA _ (pm_swap _ _ _)))) hP
              have hD : va_D _ (mO g o ab be lm ra ta ti fa um ua hh ++ (aW g (o 1) 3 rf ++ (aW g (o 2) 45 r ++ (aW g (o 3) 45 (dyM r x (n + 1)).2 ++ [])))) := vD_perm (((pm_swap _ _ _).trans (pmA _ (pm_swap _ _ _))).trans (pmA _ (pmA _ (pm_swap _ _ _)))) hD
              exact ih45 (n + 1) (by omega) (by omega) _ _ hP hD hS _ (lv_sub hl [4, 5, 6, 3, 0] rfl)
      have hP : kP g (aW g (o 2) 45 r ++ (aW g (o 3) 45 (dyM r x 0).2 ++ (mO g o ab be lm ra ta ti fa um ua hh ++ (aW g (o 1) 3 rf ++ [])))) _ := kP_eq (by rfl) hP
      have hD : va_D _ (aW g (o 2) 45 r ++ (aW g (o 3) 45 (dyM r x 0).2 ++ (mO g o ab be lm ra ta ti fa um ua hh ++ (aW g (o 1) 3 rf ++ [])))) := vD_eq (by rfl) hD
      have hl : lv_has ls 8 [(5, .int (0)), (3, .long ((dyM r x 0).1)), (0, .ref (o 0)), (1, .int (x)), (2, .int (nI N))] := by skip; exact hl
      have hP : kP g (mO g o ab be lm ra ta ti fa um ua hh ++ (aW g (o 1) 3 rf ++ (aW g (o 2) 45 r ++ (aW g (o 3) 45 (dyM r x 0).2 ++ [])))) _ := kP_perm ((((pmA _ (pm_swap _ _ _)).trans (pm_swap _ _ _)).trans (pmA _ (pmA _ (pm_swap _ _ _)))).trans (pmA _ (pm_swap _ _ _))) hP
      have hD : va_D _ (mO g o ab be lm ra ta ti fa um ua hh ++ (aW g (o 1) 3 rf ++ (aW g (o 2) 45 r ++ (aW g (o 3) 45 (dyM r x 0).2 ++ [])))) := vD_perm ((((pmA _ (pm_swap _ _ _)).trans (pm_swap _ _ _)).trans (pmA _ (pmA _ (pm_swap _ _ _)))).trans (pmA _ (pm_swap _ _ _))) hD
      exact cut45 _ 0 (Nat.lt_succ_self _) (by omega) _ _ hP hD hS _ (lv_sub hl [2, 3, 4, 1, 0] rfl)
    · skip
      have c2 := b2i_0 c2
      refine lv_aload_n hx hb dX9_days_21 rfl (lv_at hl 0 rfl) ?_
      refine lv_bipush (v := -2) hx hb dX9_days_22 rfl ?_
      refine rw_i (run_V (As := [.int (-2)]) (rest := []) hC.1 ckX9_bad (kX9_bad l g o ab be lm ra ta ti fa um ua hh rf (-2)) (gw_in m_1041 rfl) (fb_rw _ _ _) (va_recv hK.1 (kP_app.mp hP).1 (q0 := 0) rfl rfl) (fun U hU hW => ⟨by rw [hU]; exact (kP_app.mpr ⟨(kP_app.mp hP).1, (kP_app.mpr ⟨(kP_app.mp (kP_app.mp hP).2).1, kP_nil⟩)⟩), kK_warm hW hK, vD_sub (sbA _ (sbA _ (sb0 _))) hD⟩) ⟨rfl, rfl, Nat.le_of_ble_eq_true rfl, Nat.le_of_ble_eq_true rfl⟩ rfl hl.1 rfl (Nat.le_of_ble_eq_true rfl) dX9_days_24 ⟨Nat.le_of_ble_eq_true rfl, Nat.le_of_ble_eq_true rfl⟩) (adr_app rfl (adr_app aW_adr rfl)) (asc2 _ _ _) (ww' := mO g o ab be lm ra ta ti fa um ua hh ++ (aW g (o 1) 3 (upd rf 0 (rf 0 + 1)) ++ (aW g (o 2) 45 r ++ (aW g (o 3) 45 tr ++ [])))) (asc2 _ _ _) hP hD hS (fun H locs hP hD hS => ?_)
      exact ret_rxi (S := (Nat → Int32)) tr hx hb hr hlk (by simp only [c1, c2, if_true, if_false, eq_self, Bool.false_eq_true, Bool.and_true, Bool.true_and, Bool.and_false, Bool.false_and]) (kP_eq (by simp only [c1, c2, if_true, if_false, eq_self, Bool.false_eq_true, Bool.and_true, Bool.true_and, Bool.and_false, Bool.false_and]) hP) hS dX9_days_27
