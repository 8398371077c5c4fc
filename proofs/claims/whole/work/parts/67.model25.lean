theorem ckX9_order : ckV yX9_order cX9_order 11 (some .int) 2 := ⟨(gw_in m_1257 rfl), (gw_in m_71 rfl), ⟨(gw_in m_1255 rfl), (gw_in m_1256 rfl)⟩, by decide +kernel, by decide +kernel, by decide +kernel⟩
theorem or_bit : ∀ n, n < 10 → ∀ S, S < 2 ^ n → nI S ||| ((1 : Int32) <<< (nI n &&& 31)) = nI (S + 2 ^ n) := by decide +kernel
theorem set_nI {p : Nat → Bool} : ∀ n, n ≤ 10 → ∃ S : Nat, S < 2 ^ n ∧ setB p n = nI S
  | 0, _ => ⟨0, by decide, rfl⟩
  | n + 1, h => by
    obtain ⟨S, h1, h2⟩ := set_nI (p := p) n (by omega)
    have h3 : 2 ^ (n + 1) = 2 ^ n * 2 := Nat.pow_succ _ _
    cases hp : p n with
    | true => exact ⟨S + 2 ^ n, by omega, by rw [← setB_t hp, h2]; exact or_bit n (by omega) S h1⟩
    | false => exact ⟨S, by omega, by rw [← setB_f hp, h2]⟩
theorem set_can {r : Nat → Int32} {i : Int32} (hw : Wf r) : ∃ S : Nat, S < 64 ∧ setB (fun j => yCan r i (nI j)) (cl (r 2)) = nI S := by
  have h1 := cl_ti (i := r 2) hw.2.2.1.1
  have h2 := hw.n6
  obtain ⟨S, h3, h4⟩ := set_nI (p := fun j => yCan r i (nI j)) (cl (r 2)) (by omega)
  exact ⟨S, Nat.lt_of_lt_of_le h3 (pw64 (by omega)), h4⟩
theorem bits_nI : ∀ S, S < 64 → ∃ B : Nat, B ≤ 6 ∧ bcF (nI S) = nI B := by
  have h : ∀ S, S < 64 → cl (bcF (nI S)) ≤ 6 ∧ bcF (nI S) = nI (cl (bcF (nI S))) := by decide +kernel
  exact fun S hS => ⟨_, h S hS⟩
theorem pow66 {B : Nat} (h : B ≤ 6) : 6 ^ B ≤ 46656 := by
  match B, h with
  | 0, _ => decide | 1, _ => decide | 2, _ => decide | 3, _ => decide | 4, _ => decide | 5, _ => decide | 6, _ => decide
theorem plI_lt (C B p : Nat) : plI C B p < 6 := Nat.mod_lt _ (by decide)
theorem Wf_btF {b : Bool} {i j : Int32} : ∀ {m n : Nat} {r : Nat → Int32}, Wf r → Wf (btF b i j m n r).2
  | 0, _, _, h => h
  | m + 1, n, r, h => by
    unfold btF
    by_cases hc : yCan r i j = true
    · rw [if_pos hc]; exact Wf_btF (Wf_fgsM h hc)
    · rw [if_neg hc]; exact h
/-- meeting one behind another by the figures of C -/
def orR (r : Nat → Int32) (i : Int32) (C B : Nat) : Nat → Nat → Int32
  | 0 => r
  | p + 1 => if mBrk (orR r i C B p) i = true then orR r i C B p else (btF true i (nI (plI C B p)) 60 0 (orR r i C B p)).2
theorem Wf_orR {r : Nat → Int32} {i : Int32} {C B : Nat} (hw : Wf r) : ∀ p, Wf (orR r i C B p)
  | 0 => hw
  | p + 1 => by
    unfold orR
    by_cases h : mBrk (orR r i C B p) i = true
    · rw [if_pos h]; exact Wf_orR hw p
    · rw [if_neg h]; exact Wf_btF (Wf_orR hw p)
theorem orR_st {r : Nat → Int32} {i : Int32} {C B p : Nat} (h : mBrk (orR r i C B p) i = true) : ∀ k, orR r i C B (p + k) = orR r i C B p
  | 0 => rfl
  | k + 1 => by
    have ih := orR_st h k
    show (if mBrk (orR r i C B (p + k)) i = true then orR r i C B (p + k) else _) = _
    rw [if_pos (by rw [ih]; exact h), ih]
theorem orR_stop {r : Nat → Int32} {i : Int32} {C B p : Nat} (h : mBrk (orR r i C B p) i = true) (hp : p ≤ B) : orR r i C B B = orR r i C B p := by
  have := orR_st h (B - p)
  rwa [show p + (B - p) = B by omega] at this
/-- the best of all figures below C -/
def orB (r : Nat → Int32) (i s : Int32) (B : Nat) : Nat → Nat × Int32 × Int32
  | 0 => (0, -1, 0)
  | C + 1 => if ioU C B = s then (if (orB r i s B C).2.1 < orR r i C B B (39 + cl i) then (C, orR r i C B B (39 + cl i), orR r i C B B (33 + cl i)) else if orR r i C B B (39 + cl i) = (orB r i s B C).2.1 then (if (orB r i s B C).2.2 ≤ orR r i C B B (33 + cl i) then orB r i s B C else (C, orR r i C B B (39 + cl i), orR r i C B B (33 + cl i))) else orB r i s B C) else orB r i s B C
theorem orB_le {r : Nat → Int32} {i s : Int32} {B : Nat} : ∀ C, (orB r i s B C).1 ≤ C
  | 0 => Nat.le_refl 0
  | C + 1 => by
    have ih := orB_le (r := r) (i := i) (s := s) (B := B) C
    unfold orB
    split
    · split
      · exact Nat.le_succ C
      · split
        · split
          · omega
          · exact Nat.le_succ C
        · omega
    · omega
def orY (z : Nat × Int32 × Int32) (b k : Int32) : Int32 := if k = -2 then z.2.1 else if k = -1 then z.2.2 else if b ≤ k then -5 else nI (plI z.1 (cl b) (cl k))
def orX (r : Nat → Int32) (i k : Int32) : Int32 := orY (orB r i (setB (fun j => yCan r i (nI j)) (cl (r 2))) (cl (bcF (setB (fun j => yCan r i (nI j)) (cl (r 2))))) (6 ^ cl (bcF (setB (fun j => yCan r i (nI j)) (cl (r 2)))))) (bcF (setB (fun j => yCan r i (nI j)) (cl (r 2)))) k
theorem ky_nI {k : Int32} (h : -2 ≤ k) (h2 : ¬ k = -2) (h1 : ¬ k = -1) : ∃ K : Nat, K < 2147483648 ∧ k = nI K := by
  rw [Int32.le_iff_toInt_le, show (-2 : Int32).toInt = -2 from rfl] at h
  have e2 : k.toInt ≠ -2 := fun e => h2 (Int32.toInt_inj.mp e)
  have e1 : k.toInt ≠ -1 := fun e => h1 (Int32.toInt_inj.mp e)
  obtain ⟨K, h3, h4, h5⟩ := nI_ofT (x := k) (by omega)
  exact ⟨K, h3, h4⟩
set_option maxHeartbeats 4000000 in
set_option maxRecDepth 100000 in
theorem kX9_order (l : Launch) (g : gG) (o : Nat → Nat) (ab be : Int64) (lm ra ta : Nat) (ti fa : Int32) (um ua : Nat) (hh : Int64) (rf : Nat → Int32) (r tr : Nat → Int32) (i k : Int32) (hw : Wf r) : Met l yX9_order (.code yX9_order cX9_order 11 (some .int) :: gw) (rmN 4) (va_Pc [.ref (o 0), .int (i), .int (k)] (rwPre g (mO g o ab be lm ra ta ti fa um ua hh ++ (aW g (o 1) 3 rf ++ (aW g (o 2) 45 r ++ (aW g (o 3) 45 tr ++ [])))))) (rxQi g (mO g o ab be lm ra ta ti fa um ua hh ++ (aW g (o 1) 3 rf ++ (aW g (o 2) 45 r ++ (aW g (o 3) 45 tr ++ [])))) (fun u9 : (Nat → Int32) => mO g o ab be lm ra ta ti fa um ua hh ++ (aW g (o 1) 3 (if (yNut r i && decide (-2 ≤ k)) = true then rf else upd rf 0 (rf 0 + 1)) ++ (aW g (o 2) 45 r ++ (aW g (o 3) 45 u9 ++ [])))) (if (yNut r i && decide (-2 ≤ k)) = true then orX r i k else -10)) 0 0 (dm (mO g o ab be lm ra ta ti fa um ua hh ++ (aW g (o 1) 3 rf ++ (aW g (o 2) 45 r ++ (aW g (o 3) 45 tr ++ []))))) := by
  refine met_start (by decide) (Nat.le_of_ble_eq_true rfl) ?_
  intro pp ee ss mm bl mt cd hC hpre ls hl
  obtain ⟨⟨hx, hb, hml, hown, hts⟩, hr, hlk, hnm⟩ := id hC
  have hl : lv_has ls 11 [(0, .ref (o 0)), (1, .int (i)), (2, .int (k))] := hl
  obtain ⟨hP, hK, hD⟩ := hpre
  have hS : va_S (dm (mO g o ab be lm ra ta ti fa um ua hh ++ (aW g (o 1) 3 rf ++ (aW g (o 2) 45 r ++ (aW g (o 3) 45 tr ++ []))))) ss.heap ss.heap [] := va_S.rf
  have hD := vD_self hD
  refine lv_aload_n hx hb dX9_order_0 rfl (lv_at hl 0 rfl) ?_
  refine kget hC.1 hK (kP_app.mp hP).1 0 rfl rfl in_9 3 (by decide) (gw_in m_963 rfl) rfl dX9_order_1 ?_
  refine lv_iload_n hx hb dX9_order_4 rfl (lv_at hl 1 rfl) ?_
  refine ro_i (run_S (As := [.ref (o 2), .int (i)]) (rest := []) hC.1 ckX9_isNut (kX9_isNut l g (o 2) r i hw) (gw_in m_1139 rfl) (fb_ro _ _ _) (fun U hU hW => ⟨by rw [hU]; exact (kP_app.mp (kP_app.mp (kP_app.mp hP).2).2).1, kK_warm hW hK⟩) ⟨rfl, rfl, Nat.le_of_ble_eq_true rfl, Nat.le_of_ble_eq_true rfl⟩ rfl hl.1 rfl (Nat.le_of_ble_eq_true rfl) dX9_order_5 ⟨Nat.le_of_ble_eq_true rfl, Nat.le_of_ble_eq_true rfl⟩) ?_
  refine lv_if_eq (tgt := 17) hx hb dX9_order_8 (by decide) (fun c1 => ?_) (fun c1 => ?_)
  · skip
    have c1 := b2i_0 c1
    refine lv_aload_n hx hb dX9_order_17 rfl (lv_at hl 0 rfl) ?_
    refine lv_bipush (v := -10) hx hb dX9_order_18 rfl ?_
    refine rw_i (run_V (As := [.int (-10)]) (rest := []) hC.1 ckX9_bad (kX9_bad l g o ab be lm ra ta ti fa um ua hh rf (-10)) (gw_in m_1041 rfl) (fb_rw _ _ _) (va_recv hK.1 (kP_app.mp hP).1 (q0 := 0) rfl rfl) (fun U hU hW => ⟨by rw [hU]; exact (kP_app.mpr ⟨(kP_app.mp hP).1, (kP_app.mpr ⟨(kP_app.mp (kP_app.mp hP).2).1, kP_nil⟩)⟩), kK_warm hW hK, vD_sub (sbA _ (sbA _ (sb0 _))) hD⟩) ⟨rfl, rfl, Nat.le_of_ble_eq_true rfl, Nat.le_of_ble_eq_true rfl⟩ rfl hl.1 rfl (Nat.le_of_ble_eq_true rfl) dX9_order_20 ⟨Nat.le_of_ble_eq_true rfl, Nat.le_of_ble_eq_true rfl⟩) (adr_app rfl (adr_app aW_adr rfl)) (asc2 _ _ _) (ww' := mO g o ab be lm ra ta ti fa um ua hh ++ (aW g (o 1) 3 (upd rf 0 (rf 0 + 1)) ++ (aW g (o 2) 45 r ++ (aW g (o 3) 45 tr ++ [])))) (asc2 _ _ _) hP hD hS (fun H locs hP hD hS => ?_)
    exact ret_rxi (S := (Nat → Int32)) tr hx hb hr hlk (by rw [if_neg (by simp [c1])]) (kP_eq (by rw [if_neg (by simp [c1])]) hP) hS dX9_order_23
  · skip
    have c1 := b2i_1 c1
    refine lv_iload_n hx hb dX9_order_11 rfl (lv_at hl 2 rfl) ?_
    refine lv_bipush (v := -2) hx hb dX9_order_12 rfl ?_
    refine lv_icmp_ge (tgt := 24) hx hb dX9_order_14 (by decide) (fun c2 => ?_) (fun c2 => ?_)
    · skip
      have c2' := Int32.not_lt.mpr c2
      obtain ⟨S, hS6, hSe⟩ := set_can (r := r) (i := i) hw
      obtain ⟨B, hB6, hBe⟩ := bits_nI S hS6
      have h6 := pow66 hB6
      have hi := yNut_in c1 hw.n6
      refine lv_aload_n hx hb dX9_order_24 rfl (lv_at hl 0 rfl) ?_
      refine kget hC.1 hK (kP_app.mp hP).1 0 rfl rfl in_9 3 (by decide) (gw_in m_963 rfl) rfl dX9_order_25 ?_
      refine lv_iload_n hx hb dX9_order_28 rfl (lv_at hl 1 rfl) ?_
      refine ro_i (run_S (As := [.ref (o 2), .int (i)]) (rest := []) hC.1 ckX9_canSet (kX9_canSet l g (o 2) r i hw) (gw_in m_1210 rfl) (fb_ro _ _ _) (fun U hU hW => ⟨by rw [hU]; exact (kP_app.mp (kP_app.mp (kP_app.mp hP).2).2).1, kK_warm hW hK⟩) ⟨rfl, rfl, Nat.le_of_ble_eq_true rfl, Nat.le_of_ble_eq_true rfl⟩ rfl hl.1 rfl (Nat.le_of_ble_eq_true rfl) dX9_order_29 ⟨Nat.le_of_ble_eq_true rfl, Nat.le_of_ble_eq_true rfl⟩) ?_
      refine top_i (x := setB (fun j => yCan r i (nI j)) (cl (r 2))) (y := nI S) hSe ?_
      refine lv_istore_n (lv' := [(3, .int (nI S)), (0, .ref (o 0)), (1, .int (i)), (2, .int (k))]) hx hb dX9_order_32 rfl hl (by decide) rfl (fun ls hl => ?_)
      refine lv_iload_n hx hb dX9_order_33 rfl (lv_at hl 0 rfl) ?_
      refine ro_i (run_S (As := [.int (nI S)]) (rest := []) hC.1 ckX9_bits (kX9_bits l S hS6) (gw_in m_1258 rfl) (fb_nil _) (fun _ _ _ => trivial) ⟨rfl, rfl, Nat.le_of_ble_eq_true rfl, Nat.le_of_ble_eq_true rfl⟩ rfl hl.1 rfl (Nat.le_of_ble_eq_true rfl) dX9_order_34 ⟨Nat.le_of_ble_eq_true rfl, Nat.le_of_ble_eq_true rfl⟩) ?_
      refine top_i (x := bcF (nI S)) (y := nI B) hBe ?_
      refine lv_istore (lv' := [(4, .int (nI B)), (3, .int (nI S)), (0, .ref (o 0)), (1, .int (i)), (2, .int (k))]) hx hb dX9_order_37 hl (by decide) rfl (fun ls hl => ?_)
      refine lv_iconst (v := 1) hx hb dX9_order_39 rfl ?_
      refine lv_istore (lv' := [(5, .int (1)), (4, .int (nI B)), (3, .int (nI S)), (0, .ref (o 0)), (1, .int (i)), (2, .int (k))]) hx hb dX9_order_40 hl (by decide) rfl (fun ls hl => ?_)
      refine lv_iconst (v := 0) hx hb dX9_order_42 rfl ?_
      refine lv_istore (lv' := [(6, .int (0)), (5, .int (1)), (4, .int (nI B)), (3, .int (nI S)), (0, .ref (o 0)), (1, .int (i)), (2, .int (k))]) hx hb dX9_order_43 hl (by decide) rfl (fun ls hl => ?_)
      have cut45 : ∀ kk : Nat, ∀ (p : Nat), B + 1 - p < kk → (hp : p ≤ B) → ∀ (H : Heap) (locs : List Loc), kP g (mO g o ab be lm ra ta ti fa um ua hh ++ (aW g (o 1) 3 rf ++ (aW g (o 2) 45 r ++ (aW g (o 3) 45 tr ++ [])))) H → va_D (dm (mO g o ab be lm ra ta ti fa um ua hh ++ (aW g (o 1) 3 rf ++ (aW g (o 2) 45 r ++ (aW g (o 3) 45 tr ++ []))))) (mO g o ab be lm ra ta ti fa um ua hh ++ (aW g (o 1) 3 rf ++ (aW g (o 2) 45 r ++ (aW g (o 3) 45 tr ++ [])))) → va_S (dm (mO g o ab be lm ra ta ti fa um ua hh ++ (aW g (o 1) 3 rf ++ (aW g (o 2) 45 r ++ (aW g (o 3) 45 tr ++ []))))) ss.heap H locs → ∀ (ls : Array Slot), lv_has ls 11 [(0, .ref (o 0)), (1, .int (i)), (2, .int (k)), (3, .int (nI S)), (4, .int (nI B)), (5, .int (nI (6 ^ p))), (6, .int (nI p))] → W pp l ee (rmN 4) ss mm ([.ref (o 0), .int (i), .int (k)] : List Value).toArray bl mt cd H locs 0 0 (MQ bl (rxQi g (mO g o ab be lm ra ta ti fa um ua hh ++ (aW g (o 1) 3 rf ++ (aW g (o 2) 45 r ++ (aW g (o 3) 45 tr ++ [])))) (fun u9 : (Nat → Int32) => mO g o ab be lm ra ta ti fa um ua hh ++ (aW g (o 1) 3 (if (yNut r i && decide (-2 ≤ k)) = true then rf else upd rf 0 (rf 0 + 1)) ++ (aW g (o 2) 45 r ++ (aW g (o 3) 45 u9 ++ [])))) (if (yNut r i && decide (-2 ≤ k)) = true then orX r i k else -10)) ([.ref (o 0), .int (i), .int (k)] : List Value).toArray ss 0 0 (dm (mO g o ab be lm ra ta ti fa um ua hh ++ (aW g (o 1) 3 rf ++ (aW g (o 2) 45 r ++ (aW g (o 3) 45 tr ++ [])))))) (F0 mm 45 ls []) := by
        intro kk
        induction kk with
        | zero => intro p hmu; exact absurd hmu (Nat.not_lt_zero _)
        | succ kk ih45 =>
          intro p hmu hp H locs hP hD hS ls hl
          refine lv_iload hx hb dX9_order_45 (lv_at hl 6 rfl) ?_
          refine lv_iload hx hb dX9_order_47 (lv_at hl 4 rfl) ?_
          refine lv_icmp_ge (tgt := 65) hx hb dX9_order_49 (by decide) (fun c3 => ?_) (fun c3 => ?_)
          · skip
            have c3' := Int32.not_lt.mpr c3
            have hn9 : p = B := by rw [nI_leI (by omega) (by omega)] at c3; omega
            have hl : lv_has ls 11 [(0, .ref (o 0)), (1, .int (i)), (2, .int (k)), (3, .int (nI S)), (4, .int (nI B)), (5, .int (nI (6 ^ B))), (6, .int (nI B))] := by rw [hn9] at hl; exact hl
            refine lv_iconst (v := 0) hx hb dX9_order_65 rfl ?_
            refine lv_istore (lv' := [(6, .int (0)), (0, .ref (o 0)), (1, .int (i)), (2, .int (k)), (3, .int (nI S)), (4, .int (nI B)), (5, .int (nI (6 ^ B)))]) hx hb dX9_order_66 hl (by decide) rfl (fun ls hl => ?_)
            refine lv_iconst (v := -1) hx hb dX9_order_68 rfl ?_
            refine lv_istore (lv' := [(7, .int (-1)), (6, .int (0)), (0, .ref (o 0)), (1, .int (i)), (2, .int (k)), (3, .int (nI S)), (4, .int (nI B)), (5, .int (nI (6 ^ B)))]) hx hb dX9_order_69 hl (by decide) rfl (fun ls hl => ?_)
            refine lv_iconst (v := 0) hx hb dX9_order_71 rfl ?_
            refine lv_istore (lv' := [(8, .int (0)), (7, .int (-1)), (6, .int (0)), (0, .ref (o 0)), (1, .int (i)), (2, .int (k)), (3, .int (nI S)), (4, .int (nI B)), (5, .int (nI (6 ^ B)))]) hx hb dX9_order_72 hl (by decide) rfl (fun ls hl => ?_)
            refine lv_iconst (v := 0) hx hb dX9_order_74 rfl ?_
            refine lv_istore (lv' := [(9, .int (0)), (8, .int (0)), (7, .int (-1)), (6, .int (0)), (0, .ref (o 0)), (1, .int (i)), (2, .int (k)), (3, .int (nI S)), (4, .int (nI B)), (5, .int (nI (6 ^ B)))]) hx hb dX9_order_75 hl (by decide) rfl (fun ls hl => ?_)
            have cut77 : ∀ kk : Nat, ∀ (C : Nat) (tx9 : Nat → Int32), 6 ^ B + 1 - C < kk → (hCB : C ≤ 6 ^ B) → ∀ (H : Heap) (locs : List Loc), kP g (mO g o ab be lm ra ta ti fa um ua hh ++ (aW g (o 1) 3 rf ++ (aW g (o 2) 45 r ++ (aW g (o 3) 45 tx9 ++ [])))) H → va_D (dm (mO g o ab be lm ra ta ti fa um ua hh ++ (aW g (o 1) 3 rf ++ (aW g (o 2) 45 r ++ (aW g (o 3) 45 tr ++ []))))) (mO g o ab be lm ra ta ti fa um ua hh ++ (aW g (o 1) 3 rf ++ (aW g (o 2) 45 r ++ (aW g (o 3) 45 tx9 ++ [])))) → va_S (dm (mO g o ab be lm ra ta ti fa um ua hh ++ (aW g (o 1) 3 rf ++ (aW g (o 2) 45 r ++ (aW g (o 3) 45 tr ++ []))))) ss.heap H locs → ∀ (ls : Array Slot), lv_has ls 11 [(0, .ref (o 0)), (1, .int (i)), (2, .int (k)), (3, .int (nI S)), (4, .int (nI B)), (5, .int (nI (6 ^ B))), (6, .int (nI (orB r i (nI S) B C).1)), (7, .int ((orB r i (nI S) B C).2.1)), (8, .int ((orB r i (nI S) B C).2.2)), (9, .int (nI C))] → W pp l ee (rmN 4) ss mm ([.ref (o 0), .int (i), .int (k)] : List Value).toArray bl mt cd H locs 0 0 (MQ bl (rxQi g (mO g o ab be lm ra ta ti fa um ua hh ++ (aW g (o 1) 3 rf ++ (aW g (o 2) 45 r ++ (aW g (o 3) 45 tr ++ [])))) (fun u9 : (Nat → Int32) => mO g o ab be lm ra ta ti fa um ua hh ++ (aW g (o 1) 3 (if (yNut r i && decide (-2 ≤ k)) = true then rf else upd rf 0 (rf 0 + 1)) ++ (aW g (o 2) 45 r ++ (aW g (o 3) 45 u9 ++ [])))) (if (yNut r i && decide (-2 ≤ k)) = true then orX r i k else -10)) ([.ref (o 0), .int (i), .int (k)] : List Value).toArray ss 0 0 (dm (mO g o ab be lm ra ta ti fa um ua hh ++ (aW g (o 1) 3 rf ++ (aW g (o 2) 45 r ++ (aW g (o 3) 45 tr ++ [])))))) (F0 mm 77 ls []) := by
              intro kk
              induction kk with
              | zero => intro C tx9 hmu; exact absurd hmu (Nat.not_lt_zero _)
              | succ kk ih77 =>
                intro C tx9 hmu hCB H locs hP hD hS ls hl
                refine lv_iload hx hb dX9_order_77 (lv_at hl 9 rfl) ?_
                refine lv_iload hx hb dX9_order_79 (lv_at hl 5 rfl) ?_
                refine lv_icmp_ge (tgt := 263) hx hb dX9_order_81 (by decide) (fun c4 => ?_) (fun c4 => ?_)
                · skip
                  have c4' := Int32.not_lt.mpr c4
                  have hn9 : C = 6 ^ B := by rw [nI_leI (by omega) (by omega)] at c4; omega
                  have hl : lv_has ls 11 [(0, .ref (o 0)), (1, .int (i)), (2, .int (k)), (3, .int (nI S)), (4, .int (nI B)), (5, .int (nI (6 ^ B))), (6, .int (nI (orB r i (nI S) B (6 ^ B)).1)), (7, .int ((orB r i (nI S) B (6 ^ B)).2.1)), (8, .int ((orB r i (nI S) B (6 ^ B)).2.2)), (9, .int (nI (6 ^ B)))] := by rw [hn9] at hl; exact hl
                  refine lv_iload_n hx hb dX9_order_263 rfl (lv_at hl 2 rfl) ?_
                  refine lv_bipush (v := -2) hx hb dX9_order_264 rfl ?_
                  refine lv_icmp_ne (tgt := 274) hx hb dX9_order_266 (by decide) (fun c5 => ?_) (fun c5 => ?_)
                  · skip
                    refine lv_iload_n hx hb dX9_order_274 rfl (lv_at hl 2 rfl) ?_
                    refine lv_iconst (v := -1) hx hb dX9_order_275 rfl ?_
                    refine lv_icmp_ne (tgt := 284) hx hb dX9_order_276 (by decide) (fun c6 => ?_) (fun c6 => ?_)
                    · skip
                      refine lv_iload_n hx hb dX9_order_284 rfl (lv_at hl 2 rfl) ?_
                      refine lv_iload hx hb dX9_order_285 (lv_at hl 4 rfl) ?_
                      refine lv_icmp_ge (tgt := 301) hx hb dX9_order_287 (by decide) (fun c7 => ?_) (fun c7 => ?_)
                      · skip
                        have c7' := Int32.not_lt.mpr c7
                        refine lv_bipush (v := -5) hx hb dX9_order_301 rfl ?_
                        exact ret_rxi (S := (Nat → Int32)) tx9 hx hb hr hlk (by rw [if_pos (by rw [c1, decide_eq_true c2]; rfl)]; unfold orX; rw [hSe, hBe, cl_nI (show B < 2147483648 by omega)]; unfold orY; rw [if_neg c5, if_neg c6, if_pos c7]) (kP_eq (by rw [if_pos (by rw [c1, decide_eq_true c2]; rfl)]) hP) hS dX9_order_303
                      · skip
                        have c7' := Int32.not_le.mp c7
                        obtain ⟨K, hK9, rfl⟩ := ky_nI c2 c5 c6
                        have hKB : K < B := by have h9 := c7; rw [nI_leI (by omega) (by omega)] at h9; omega
                        have hle := orB_le (r := r) (i := i) (s := nI S) (B := B) (6 ^ B)
                        refine lv_iload hx hb dX9_order_290 (lv_at hl 6 rfl) ?_
                        refine lv_iload hx hb dX9_order_292 (lv_at hl 4 rfl) ?_
                        refine lv_iload_n hx hb dX9_order_294 rfl (lv_at hl 2 rfl) ?_
                        refine ro_i (run_S (As := [.int (nI (orB r i (nI S) B (6 ^ B)).1), .int (nI B), .int (nI K)]) (rest := []) hC.1 ckX9_placeIn (kX9_placeIn l (orB r i (nI S) B (6 ^ B)).1 B K (by omega) hB6 hKB) (gw_in m_1264 rfl) (fb_nil _) (fun _ _ _ => trivial) ⟨rfl, rfl, Nat.le_of_ble_eq_true rfl, Nat.le_of_ble_eq_true rfl⟩ rfl hl.1 rfl (Nat.le_of_ble_eq_true rfl) dX9_order_295 ⟨Nat.le_of_ble_eq_true rfl, Nat.le_of_ble_eq_true rfl⟩) ?_
                        refine lv_goto (tgt := 303) hx hb dX9_order_298 (by decide) ?_
                        exact ret_rxi (S := (Nat → Int32)) tx9 hx hb hr hlk (by rw [if_pos (by rw [c1, decide_eq_true c2]; rfl)]; unfold orX; rw [hSe, hBe, cl_nI (show B < 2147483648 by omega)]; unfold orY; rw [if_neg c5, if_neg c6, if_neg c7, cl_nI (by omega), cl_nI (by omega)]) (kP_eq (by rw [if_pos (by rw [c1, decide_eq_true c2]; rfl)]) hP) hS dX9_order_303
                    · skip
                      refine lv_iload hx hb dX9_order_279 (lv_at hl 8 rfl) ?_
                      refine lv_goto (tgt := 303) hx hb dX9_order_281 (by decide) ?_
                      exact ret_rxi (S := (Nat → Int32)) tx9 hx hb hr hlk (by rw [if_pos (by rw [c1, decide_eq_true c2]; rfl)]; unfold orX; rw [hSe, hBe, cl_nI (show B < 2147483648 by omega)]; unfold orY; rw [if_neg c5, if_pos c6]) (kP_eq (by rw [if_pos (by rw [c1, decide_eq_true c2]; rfl)]) hP) hS dX9_order_303
                  · skip
                    refine lv_iload hx hb dX9_order_269 (lv_at hl 7 rfl) ?_
                    refine lv_goto (tgt := 303) hx hb dX9_order_271 (by decide) ?_
                    exact ret_rxi (S := (Nat → Int32)) tx9 hx hb hr hlk (by rw [if_pos (by rw [c1, decide_eq_true c2]; rfl)]; unfold orX; rw [hSe, hBe, cl_nI (show B < 2147483648 by omega)]; unfold orY; rw [if_pos c5]) (kP_eq (by rw [if_pos (by rw [c1, decide_eq_true c2]; rfl)]) hP) hS dX9_order_303
                · skip
                  have c4' := Int32.not_le.mp c4
                  have hn9 : C < 6 ^ B := by rw [nI_leI (by omega) (by omega)] at c4; omega
                  refine lv_iload hx hb dX9_order_84 (lv_at hl 9 rfl) ?_
                  refine lv_iload_n hx hb dX9_order_86 rfl (lv_at hl 3 rfl) ?_
                  refine lv_iload hx hb dX9_order_87 (lv_at hl 4 rfl) ?_
                  refine ro_i (run_S (As := [.int (nI C), .int (nI S), .int (nI B)]) (rest := []) hC.1 ckX9_isOrder (kX9_isOrder l C (nI S) B (by omega) hB6) (gw_in m_1261 rfl) (fb_nil _) (fun _ _ _ => trivial) ⟨rfl, rfl, Nat.le_of_ble_eq_true rfl, Nat.le_of_ble_eq_true rfl⟩ rfl hl.1 rfl (Nat.le_of_ble_eq_true rfl) dX9_order_89 ⟨Nat.le_of_ble_eq_true rfl, Nat.le_of_ble_eq_true rfl⟩) ?_
                  refine lv_if_eq (tgt := 257) hx hb dX9_order_92 (by decide) (fun c8 => ?_) (fun c8 => ?_)
                  · skip
                    have c8 := b2i_0 c8
                    refine lv_iinc (v := nI (C + 1)) (lv' := [(9, .int (nI (C + 1))), (0, .ref (o 0)), (1, .int (i)), (2, .int (k)), (3, .int (nI S)), (4, .int (nI B)), (5, .int (nI (6 ^ B))), (6, .int (nI (orB r i (nI S) B C).1)), (7, .int ((orB r i (nI S) B C).2.1)), (8, .int ((orB r i (nI S) B C).2.2))]) hx hb dX9_order_257 hl (k := 9) rfl (inc_nI C) (by decide) rfl (fun ls hl => ?_)
                    refine lv_goto (tgt := 77) hx hb dX9_order_260 (by decide) ?_
                    have e9 : orB r i (nI S) B (C + 1) = orB r i (nI S) B C := if_neg (of_decide_eq_false c8)
                    have hl : lv_has ls 11 [(9, .int (nI (C + 1))), (0, .ref (o 0)), (1, .int (i)), (2, .int (k)), (3, .int (nI S)), (4, .int (nI B)), (5, .int (nI (6 ^ B))), (6, .int (nI (orB r i (nI S) B (C + 1)).1)), (7, .int ((orB r i (nI S) B (C + 1)).2.1)), (8, .int ((orB r i (nI S) B (C + 1)).2.2))] := by rw [e9]; exact hl
                    exact ih77 (C + 1) tx9 (by omega) (by omega) _ _ hP hD hS _ (lv_sub hl [1, 2, 3, 4, 5, 6, 7, 8, 9, 0] rfl)
                  · skip
                    have c8 := b2i_1 c8
                    refine lv_aload_n hx hb dX9_order_95 rfl (lv_at hl 0 rfl) ?_
                    refine kget hC.1 hK (kP_app.mp hP).1 0 rfl rfl in_9 3 (by decide) (gw_in m_963 rfl) rfl dX9_order_96 ?_
                    refine lv_aload_n hx hb dX9_order_99 rfl (lv_at hl 0 rfl) ?_
                    refine kget hC.1 hK (kP_app.mp hP).1 0 rfl rfl in_9 4 (by decide) (gw_in m_964 rfl) rfl dX9_order_100 ?_
                    have hP : kP g (aW g (o 2) 45 r ++ (aW g (o 3) 45 tx9 ++ (mO g o ab be lm ra ta ti fa um ua hh ++ (aW g (o 1) 3 rf ++ [])))) _ := kP_perm ((((pmA _ (pm_swap _ _ _)).trans (pm_swap _ _ _)).trans (pmA _ (pmA _ (pm_swap _ _ _)))).trans (pmA _ (pm_swap _ _ _))) hP
                    have hD : va_D _ (aW g (o 2) 45 r ++ (aW g (o 3) 45 tx9 ++ (mO g o ab be lm ra ta ti fa um ua hh ++ (aW g (o 1) 3 rf ++ [])))) := vD_perm ((((pmA _ (pm_swap _ _ _)).trans (pm_swap _ _ _)).trans (pmA _ (pmA _ (pm_swap _ _ _)))).trans (pmA _ (pm_swap _ _ _))) hD
                    refine rw_v (run_S (As := [.ref (o 2), .ref (o 3)]) (rest := []) hC.1 ckX9_copies (kX9_copies l g (o 2) (o 3) r tx9) (gw_in m_1175 rfl) (fb_rw _ _ _) (fun U hU hW => ⟨by rw [hU]; exact (kP_app.mpr ⟨(kP_app.mp hP).1, (kP_app.mpr ⟨(kP_app.mp (kP_app.mp hP).2).1, kP_nil⟩)⟩), kK_warm hW hK, vD_sub (sbA _ (sbA _ (sb0 _))) hD⟩) ⟨rfl, rfl, Nat.le_of_ble_eq_true rfl, Nat.le_of_ble_eq_true rfl⟩ rfl hl.1 rfl (Nat.le_of_ble_eq_true rfl) dX9_order_103 ⟨Nat.le_of_ble_eq_true rfl, Nat.le_of_ble_eq_true rfl⟩) (adr_app rfl (adr_app aW_adr rfl)) (asc2 _ _ _) (ww' := aW g (o 2) 45 r ++ (aW g (o 3) 45 r ++ (mO g o ab be lm ra ta ti fa um ua hh ++ (aW g (o 1) 3 rf ++ [])))) (asc2 _ _ _) hP hD hS (fun H locs hP hD hS => ?_)
                    refine lv_iconst (v := 0) hx hb dX9_order_106 rfl ?_
                    refine lv_istore (lv' := [(10, .int (0)), (0, .ref (o 0)), (1, .int (i)), (2, .int (k)), (3, .int (nI S)), (4, .int (nI B)), (5, .int (nI (6 ^ B))), (6, .int (nI (orB r i (nI S) B C).1)), (7, .int ((orB r i (nI S) B C).2.1)), (8, .int ((orB r i (nI S) B C).2.2)), (9, .int (nI C))]) hx hb dX9_order_107 hl (by decide) rfl (fun ls hl => ?_)
                    have cut109 : ∀ kk : Nat, ∀ (p : Nat), B + 1 - p < kk → (hp : p ≤ B) → ∀ (H : Heap) (locs : List Loc), kP g (mO g o ab be lm ra ta ti fa um ua hh ++ (aW g (o 1) 3 rf ++ (aW g (o 2) 45 r ++ (aW g (o 3) 45 (orR r i C B p) ++ [])))) H → va_D (dm (mO g o ab be lm ra ta ti fa um ua hh ++ (aW g (o 1) 3 rf ++ (aW g (o 2) 45 r ++ (aW g (o 3) 45 tr ++ []))))) (mO g o ab be lm ra ta ti fa um ua hh ++ (aW g (o 1) 3 rf ++ (aW g (o 2) 45 r ++ (aW g (o 3) 45 (orR r i C B p) ++ [])))) → va_S (dm (mO g o ab be lm ra ta ti fa um ua hh ++ (aW g (o 1) 3 rf ++ (aW g (o 2) 45 r ++ (aW g (o 3) 45 tr ++ []))))) ss.heap H locs → ∀ (ls : Array Slot), lv_has ls 11 [(0, .ref (o 0)), (1, .int (i)), (2, .int (k)), (3, .int (nI S)), (4, .int (nI B)), (5, .int (nI (6 ^ B))), (6, .int (nI (orB r i (nI S) B C).1)), (7, .int ((orB r i (nI S) B C).2.1)), (8, .int ((orB r i (nI S) B C).2.2)), (9, .int (nI C)), (10, .int (nI p))] → W pp l ee (rmN 4) ss mm ([.ref (o 0), .int (i), .int (k)] : List Value).toArray bl mt cd H locs 0 0 (MQ bl (rxQi g (mO g o ab be lm ra ta ti fa um ua hh ++ (aW g (o 1) 3 rf ++ (aW g (o 2) 45 r ++ (aW g (o 3) 45 tr ++ [])))) (fun u9 : (Nat → Int32) => mO g o ab be lm ra ta ti fa um ua hh ++ (aW g (o 1) 3 (if (yNut r i && decide (-2 ≤ k)) = true then rf else upd rf 0 (rf 0 + 1)) ++ (aW g (o 2) 45 r ++ (aW g (o 3) 45 u9 ++ [])))) (if (yNut r i && decide (-2 ≤ k)) = true then orX r i k else -10)) ([.ref (o 0), .int (i), .int (k)] : List Value).toArray ss 0 0 (dm (mO g o ab be lm ra ta ti fa um ua hh ++ (aW g (o 1) 3 rf ++ (aW g (o 2) 45 r ++ (aW g (o 3) 45 tr ++ [])))))) (F0 mm 109 ls []) := by
                      intro kk
                      induction kk with
                      | zero => intro p hmu; exact absurd hmu (Nat.not_lt_zero _)
                      | succ kk ih109 =>
                        intro p hmu hp H locs hP hD hS ls hl
                        have hwp := Wf_orR (i := i) (C := C) (B := B) hw p
                        refine lv_iload hx hb dX9_order_109 (lv_at hl 10 rfl) ?_
                        refine lv_iload hx hb dX9_order_111 (lv_at hl 4 rfl) ?_
                        refine lv_icmp_ge (tgt := 152) hx hb dX9_order_113 (by decide) (fun c9 => ?_) (fun c9 => ?_)
                        · skip
                          have c9' := Int32.not_lt.mpr c9
                          have hp9 : p = B := by rw [nI_leI (by omega) (by omega)] at c9; omega
                          have hfin : orR r i C B B = orR r i C B p := by rw [hp9]
                          have hP : kP g (mO g o ab be lm ra ta ti fa um ua hh ++ (aW g (o 1) 3 rf ++ (aW g (o 2) 45 r ++ (aW g (o 3) 45 (orR r i C B B) ++ [])))) _ := kP_eq (by rw [hfin]) hP
                          have hD : va_D _ (mO g o ab be lm ra ta ti fa um ua hh ++ (aW g (o 1) 3 rf ++ (aW g (o 2) 45 r ++ (aW g (o 3) 45 (orR r i C B B) ++ [])))) := vD_eq (by rw [hfin]) hD
                          have hsc : True := trivial
                          refine lv_aload_n hx hb dX9_order_152 rfl (lv_at hl 0 rfl) ?_
                          refine kget hC.1 hK (kP_app.mp hP).1 0 rfl rfl in_9 4 (by decide) (gw_in m_964 rfl) rfl dX9_order_153 ?_
                          refine lv_bipush (v := 39) hx hb dX9_order_156 rfl ?_
                          refine lv_iload_n hx hb dX9_order_158 rfl (lv_at hl 1 rfl) ?_
                          refine lv_iadd hx hb dX9_order_159 ?_
                          refine kald (v := (orR r i C B B) (39 + cl i)) hC.1 hK (kP_app.mp (kP_app.mp (kP_app.mp (kP_app.mp hP).2).2).2).1 0 rfl (ix_in (K := 39) (yNut_in c1 hw.n6) (by omega) (by omega)) (congrArg (orR r i C B B) (show cl (39 + i) = 39 + cl i from ix_cl (K := 39) (yNut_in c1 hw.n6) (by omega))) dX9_order_160 ?_
                          refine lv_iload hx hb dX9_order_161 (lv_at hl 7 rfl) ?_
                          refine lv_icmp_gt (tgt := 194) hx hb dX9_order_163 (by decide) (fun c10 => ?_) (fun c10 => ?_)
                          · skip
                            have c10' := Int32.not_le.mpr c10
                            refine lv_iconst (v := 1) hx hb dX9_order_194 rfl ?_
                            refine lv_goto (tgt := 199) hx hb dX9_order_195 (by decide) ?_
                            refine lv_istore (lv' := [(10, .int (1)), (0, .ref (o 0)), (1, .int (i)), (2, .int (k)), (3, .int (nI S)), (4, .int (nI B)), (5, .int (nI (6 ^ B))), (6, .int (nI (orB r i (nI S) B C).1)), (7, .int ((orB r i (nI S) B C).2.1)), (8, .int ((orB r i (nI S) B C).2.2)), (9, .int (nI C))]) hx hb dX9_order_199 hl (by decide) rfl (fun ls hl => ?_)
                            refine lv_iload hx hb dX9_order_201 (lv_at hl 0 rfl) ?_
                            refine lv_if_eq (tgt := 211) hx hb dX9_order_203 (by decide) (fun c11 => ?_) (fun c11 => ?_)
                            · skip
                              exact absurd c11 (by decide)
                            · skip
                              refine lv_iload hx hb dX9_order_206 (lv_at hl 10 rfl) ?_
                              refine lv_goto (tgt := 213) hx hb dX9_order_208 (by decide) ?_
                              refine lv_istore (lv' := [(6, .int (nI C)), (10, .int (1)), (0, .ref (o 0)), (1, .int (i)), (2, .int (k)), (3, .int (nI S)), (4, .int (nI B)), (5, .int (nI (6 ^ B))), (7, .int ((orB r i (nI S) B C).2.1)), (8, .int ((orB r i (nI S) B C).2.2)), (9, .int (nI C))]) hx hb dX9_order_213 hl (by decide) rfl (fun ls hl => ?_)
                              refine lv_iload hx hb dX9_order_215 (lv_at hl 1 rfl) ?_
                              refine lv_if_eq (tgt := 232) hx hb dX9_order_217 (by decide) (fun c12 => ?_) (fun c12 => ?_)
                              · skip
                                exact absurd c12 (by decide)
                              · skip
                                refine lv_aload_n hx hb dX9_order_220 rfl (lv_at hl 2 rfl) ?_
                                refine kget hC.1 hK (kP_app.mp hP).1 0 rfl rfl in_9 4 (by decide) (gw_in m_964 rfl) rfl dX9_order_221 ?_
                                refine lv_bipush (v := 33) hx hb dX9_order_224 rfl ?_
                                refine lv_iload_n hx hb dX9_order_226 rfl (lv_at hl 3 rfl) ?_
                                refine lv_iadd hx hb dX9_order_227 ?_
                                refine kald (v := (orR r i C B B) (33 + cl i)) hC.1 hK (kP_app.mp (kP_app.mp (kP_app.mp (kP_app.mp hP).2).2).2).1 0 rfl (ix_in (K := 33) (yNut_in c1 hw.n6) (by omega) (by omega)) (congrArg (orR r i C B B) (show cl (33 + i) = 33 + cl i from ix_cl (K := 33) (yNut_in c1 hw.n6) (by omega))) dX9_order_228 ?_
                                refine lv_goto (tgt := 234) hx hb dX9_order_229 (by decide) ?_
                                refine lv_istore (lv' := [(8, .int ((orR r i C B B) (33 + cl i))), (6, .int (nI C)), (10, .int (1)), (0, .ref (o 0)), (1, .int (i)), (2, .int (k)), (3, .int (nI S)), (4, .int (nI B)), (5, .int (nI (6 ^ B))), (7, .int ((orB r i (nI S) B C).2.1)), (9, .int (nI C))]) hx hb dX9_order_234 hl (by decide) rfl (fun ls hl => ?_)
                                refine lv_iload hx hb dX9_order_236 (lv_at hl 2 rfl) ?_
                                refine lv_if_eq (tgt := 253) hx hb dX9_order_238 (by decide) (fun c13 => ?_) (fun c13 => ?_)
                                · skip
                                  exact absurd c13 (by decide)
                                · skip
                                  refine lv_aload_n hx hb dX9_order_241 rfl (lv_at hl 3 rfl) ?_
                                  refine kget hC.1 hK (kP_app.mp hP).1 0 rfl rfl in_9 4 (by decide) (gw_in m_964 rfl) rfl dX9_order_242 ?_
                                  refine lv_bipush (v := 39) hx hb dX9_order_245 rfl ?_
                                  refine lv_iload_n hx hb dX9_order_247 rfl (lv_at hl 4 rfl) ?_
                                  refine lv_iadd hx hb dX9_order_248 ?_
                                  refine kald (v := (orR r i C B B) (39 + cl i)) hC.1 hK (kP_app.mp (kP_app.mp (kP_app.mp (kP_app.mp hP).2).2).2).1 0 rfl (ix_in (K := 39) (yNut_in c1 hw.n6) (by omega) (by omega)) (congrArg (orR r i C B B) (show cl (39 + i) = 39 + cl i from ix_cl (K := 39) (yNut_in c1 hw.n6) (by omega))) dX9_order_249 ?_
                                  refine lv_goto (tgt := 255) hx hb dX9_order_250 (by decide) ?_
                                  refine lv_istore (lv' := [(7, .int ((orR r i C B B) (39 + cl i))), (8, .int ((orR r i C B B) (33 + cl i))), (6, .int (nI C)), (10, .int (1)), (0, .ref (o 0)), (1, .int (i)), (2, .int (k)), (3, .int (nI S)), (4, .int (nI B)), (5, .int (nI (6 ^ B))), (9, .int (nI C))]) hx hb dX9_order_255 hl (by decide) rfl (fun ls hl => ?_)
                                  refine lv_iinc (v := nI (C + 1)) (lv' := [(9, .int (nI (C + 1))), (7, .int ((orR r i C B B) (39 + cl i))), (8, .int ((orR r i C B B) (33 + cl i))), (6, .int (nI C)), (10, .int (1)), (0, .ref (o 0)), (1, .int (i)), (2, .int (k)), (3, .int (nI S)), (4, .int (nI B)), (5, .int (nI (6 ^ B)))]) hx hb dX9_order_257 hl (k := 10) rfl (inc_nI C) (by decide) rfl (fun ls hl => ?_)
                                  refine lv_goto (tgt := 77) hx hb dX9_order_260 (by decide) ?_
                                  have e9 : orB r i (nI S) B (C + 1) = (C, orR r i C B B (39 + cl i), orR r i C B B (33 + cl i)) := (if_pos (of_decide_eq_true c8)).trans (if_pos c10)
                                  have hl : lv_has ls 11 [(9, .int (nI (C + 1))), (7, .int ((orB r i (nI S) B (C + 1)).2.1)), (8, .int ((orB r i (nI S) B (C + 1)).2.2)), (6, .int (nI (orB r i (nI S) B (C + 1)).1)), (10, .int (1)), (0, .ref (o 0)), (1, .int (i)), (2, .int (k)), (3, .int (nI S)), (4, .int (nI B)), (5, .int (nI (6 ^ B)))] := by rw [e9]; exact hl
                                  exact ih77 (C + 1) (orR r i C B B) (by omega) (by omega) _ _ hP hD hS _ (lv_sub hl [5, 6, 7, 8, 9, 10, 3, 1, 2, 0] rfl)
                          · skip
                            have c10' := Int32.not_lt.mp c10
                            refine lv_aload_n hx hb dX9_order_166 rfl (lv_at hl 0 rfl) ?_
                            refine kget hC.1 hK (kP_app.mp hP).1 0 rfl rfl in_9 4 (by decide) (gw_in m_964 rfl) rfl dX9_order_167 ?_
                            refine lv_bipush (v := 39) hx hb dX9_order_170 rfl ?_
                            refine lv_iload_n hx hb dX9_order_172 rfl (lv_at hl 1 rfl) ?_
                            refine lv_iadd hx hb dX9_order_173 ?_
                            refine kald (v := (orR r i C B B) (39 + cl i)) hC.1 hK (kP_app.mp (kP_app.mp (kP_app.mp (kP_app.mp hP).2).2).2).1 0 rfl (ix_in (K := 39) (yNut_in c1 hw.n6) (by omega) (by omega)) (congrArg (orR r i C B B) (show cl (39 + i) = 39 + cl i from ix_cl (K := 39) (yNut_in c1 hw.n6) (by omega))) dX9_order_174 ?_
                            refine lv_iload hx hb dX9_order_175 (lv_at hl 7 rfl) ?_
                            refine lv_icmp_ne (tgt := 198) hx hb dX9_order_177 (by decide) (fun c14 => ?_) (fun c14 => ?_)
                            · skip
                              refine lv_iconst (v := 0) hx hb dX9_order_198 rfl ?_
                              refine lv_istore (lv' := [(10, .int (0)), (0, .ref (o 0)), (1, .int (i)), (2, .int (k)), (3, .int (nI S)), (4, .int (nI B)), (5, .int (nI (6 ^ B))), (6, .int (nI (orB r i (nI S) B C).1)), (7, .int ((orB r i (nI S) B C).2.1)), (8, .int ((orB r i (nI S) B C).2.2)), (9, .int (nI C))]) hx hb dX9_order_199 hl (by decide) rfl (fun ls hl => ?_)
                              refine lv_iload hx hb dX9_order_201 (lv_at hl 0 rfl) ?_
                              refine lv_if_eq (tgt := 211) hx hb dX9_order_203 (by decide) (fun c15 => ?_) (fun c15 => ?_)
                              · skip
                                refine lv_iload hx hb dX9_order_211 (lv_at hl 7 rfl) ?_
                                refine lv_istore (lv' := [(6, .int (nI (orB r i (nI S) B C).1)), (10, .int (0)), (0, .ref (o 0)), (1, .int (i)), (2, .int (k)), (3, .int (nI S)), (4, .int (nI B)), (5, .int (nI (6 ^ B))), (7, .int ((orB r i (nI S) B C).2.1)), (8, .int ((orB r i (nI S) B C).2.2)), (9, .int (nI C))]) hx hb dX9_order_213 hl (by decide) rfl (fun ls hl => ?_)
                                refine lv_iload hx hb dX9_order_215 (lv_at hl 1 rfl) ?_
                                refine lv_if_eq (tgt := 232) hx hb dX9_order_217 (by decide) (fun c16 => ?_) (fun c16 => ?_)
                                · skip
                                  refine lv_iload hx hb dX9_order_232 (lv_at hl 9 rfl) ?_
                                  refine lv_istore (lv' := [(8, .int ((orB r i (nI S) B C).2.2)), (6, .int (nI (orB r i (nI S) B C).1)), (10, .int (0)), (0, .ref (o 0)), (1, .int (i)), (2, .int (k)), (3, .int (nI S)), (4, .int (nI B)), (5, .int (nI (6 ^ B))), (7, .int ((orB r i (nI S) B C).2.1)), (9, .int (nI C))]) hx hb dX9_order_234 hl (by decide) rfl (fun ls hl => ?_)
                                  refine lv_iload hx hb dX9_order_236 (lv_at hl 2 rfl) ?_
                                  refine lv_if_eq (tgt := 253) hx hb dX9_order_238 (by decide) (fun c17 => ?_) (fun c17 => ?_)
                                  · skip
                                    refine lv_iload hx hb dX9_order_253 (lv_at hl 9 rfl) ?_
                                    refine lv_istore (lv' := [(7, .int ((orB r i (nI S) B C).2.1)), (8, .int ((orB r i (nI S) B C).2.2)), (6, .int (nI (orB r i (nI S) B C).1)), (10, .int (0)), (0, .ref (o 0)), (1, .int (i)), (2, .int (k)), (3, .int (nI S)), (4, .int (nI B)), (5, .int (nI (6 ^ B))), (9, .int (nI C))]) hx hb dX9_order_255 hl (by decide) rfl (fun ls hl => ?_)
                                    refine lv_iinc (v := nI (C + 1)) (lv' := [(9, .int (nI (C + 1))), (7, .int ((orB r i (nI S) B C).2.1)), (8, .int ((orB r i (nI S) B C).2.2)), (6, .int (nI (orB r i (nI S) B C).1)), (10, .int (0)), (0, .ref (o 0)), (1, .int (i)), (2, .int (k)), (3, .int (nI S)), (4, .int (nI B)), (5, .int (nI (6 ^ B)))]) hx hb dX9_order_257 hl (k := 10) rfl (inc_nI C) (by decide) rfl (fun ls hl => ?_)
                                    refine lv_goto (tgt := 77) hx hb dX9_order_260 (by decide) ?_
                                    have e9 : orB r i (nI S) B (C + 1) = orB r i (nI S) B C := (if_pos (of_decide_eq_true c8)).trans ((if_neg c10).trans (if_neg c14))
                                    have hl : lv_has ls 11 [(9, .int (nI (C + 1))), (7, .int ((orB r i (nI S) B (C + 1)).2.1)), (8, .int ((orB r i (nI S) B (C + 1)).2.2)), (6, .int (nI (orB r i (nI S) B (C + 1)).1)), (10, .int (0)), (0, .ref (o 0)), (1, .int (i)), (2, .int (k)), (3, .int (nI S)), (4, .int (nI B)), (5, .int (nI (6 ^ B)))] := by rw [e9]; exact hl
                                    exact ih77 (C + 1) (orR r i C B B) (by omega) (by omega) _ _ hP hD hS _ (lv_sub hl [5, 6, 7, 8, 9, 10, 3, 1, 2, 0] rfl)
                                  · skip
                                    exact absurd c17 (by decide)
                                · skip
                                  exact absurd c16 (by decide)
                              · skip
                                exact absurd c15 (by decide)
                            · skip
                              refine lv_aload_n hx hb dX9_order_180 rfl (lv_at hl 0 rfl) ?_
                              refine kget hC.1 hK (kP_app.mp hP).1 0 rfl rfl in_9 4 (by decide) (gw_in m_964 rfl) rfl dX9_order_181 ?_
                              refine lv_bipush (v := 33) hx hb dX9_order_184 rfl ?_
                              refine lv_iload_n hx hb dX9_order_186 rfl (lv_at hl 1 rfl) ?_
                              refine lv_iadd hx hb dX9_order_187 ?_
                              refine kald (v := (orR r i C B B) (33 + cl i)) hC.1 hK (kP_app.mp (kP_app.mp (kP_app.mp (kP_app.mp hP).2).2).2).1 0 rfl (ix_in (K := 33) (yNut_in c1 hw.n6) (by omega) (by omega)) (congrArg (orR r i C B B) (show cl (33 + i) = 33 + cl i from ix_cl (K := 33) (yNut_in c1 hw.n6) (by omega))) dX9_order_188 ?_
                              refine lv_iload hx hb dX9_order_189 (lv_at hl 8 rfl) ?_
                              refine lv_icmp_ge (tgt := 198) hx hb dX9_order_191 (by decide) (fun c18 => ?_) (fun c18 => ?_)
                              · skip
                                have c18' := Int32.not_lt.mpr c18
                                refine lv_iconst (v := 0) hx hb dX9_order_198 rfl ?_
                                refine lv_istore (lv' := [(10, .int (0)), (0, .ref (o 0)), (1, .int (i)), (2, .int (k)), (3, .int (nI S)), (4, .int (nI B)), (5, .int (nI (6 ^ B))), (6, .int (nI (orB r i (nI S) B C).1)), (7, .int ((orB r i (nI S) B C).2.1)), (8, .int ((orB r i (nI S) B C).2.2)), (9, .int (nI C))]) hx hb dX9_order_199 hl (by decide) rfl (fun ls hl => ?_)
                                refine lv_iload hx hb dX9_order_201 (lv_at hl 0 rfl) ?_
                                refine lv_if_eq (tgt := 211) hx hb dX9_order_203 (by decide) (fun c19 => ?_) (fun c19 => ?_)
                                · skip
                                  refine lv_iload hx hb dX9_order_211 (lv_at hl 7 rfl) ?_
                                  refine lv_istore (lv' := [(6, .int (nI (orB r i (nI S) B C).1)), (10, .int (0)), (0, .ref (o 0)), (1, .int (i)), (2, .int (k)), (3, .int (nI S)), (4, .int (nI B)), (5, .int (nI (6 ^ B))), (7, .int ((orB r i (nI S) B C).2.1)), (8, .int ((orB r i (nI S) B C).2.2)), (9, .int (nI C))]) hx hb dX9_order_213 hl (by decide) rfl (fun ls hl => ?_)
                                  refine lv_iload hx hb dX9_order_215 (lv_at hl 1 rfl) ?_
                                  refine lv_if_eq (tgt := 232) hx hb dX9_order_217 (by decide) (fun c20 => ?_) (fun c20 => ?_)
                                  · skip
                                    refine lv_iload hx hb dX9_order_232 (lv_at hl 9 rfl) ?_
                                    refine lv_istore (lv' := [(8, .int ((orB r i (nI S) B C).2.2)), (6, .int (nI (orB r i (nI S) B C).1)), (10, .int (0)), (0, .ref (o 0)), (1, .int (i)), (2, .int (k)), (3, .int (nI S)), (4, .int (nI B)), (5, .int (nI (6 ^ B))), (7, .int ((orB r i (nI S) B C).2.1)), (9, .int (nI C))]) hx hb dX9_order_234 hl (by decide) rfl (fun ls hl => ?_)
                                    refine lv_iload hx hb dX9_order_236 (lv_at hl 2 rfl) ?_
                                    refine lv_if_eq (tgt := 253) hx hb dX9_order_238 (by decide) (fun c21 => ?_) (fun c21 => ?_)
                                    · skip
                                      refine lv_iload hx hb dX9_order_253 (lv_at hl 9 rfl) ?_
                                      refine lv_istore (lv' := [(7, .int ((orB r i (nI S) B C).2.1)), (8, .int ((orB r i (nI S) B C).2.2)), (6, .int (nI (orB r i (nI S) B C).1)), (10, .int (0)), (0, .ref (o 0)), (1, .int (i)), (2, .int (k)), (3, .int (nI S)), (4, .int (nI B)), (5, .int (nI (6 ^ B))), (9, .int (nI C))]) hx hb dX9_order_255 hl (by decide) rfl (fun ls hl => ?_)
                                      refine lv_iinc (v := nI (C + 1)) (lv' := [(9, .int (nI (C + 1))), (7, .int ((orB r i (nI S) B C).2.1)), (8, .int ((orB r i (nI S) B C).2.2)), (6, .int (nI (orB r i (nI S) B C).1)), (10, .int (0)), (0, .ref (o 0)), (1, .int (i)), (2, .int (k)), (3, .int (nI S)), (4, .int (nI B)), (5, .int (nI (6 ^ B)))]) hx hb dX9_order_257 hl (k := 10) rfl (inc_nI C) (by decide) rfl (fun ls hl => ?_)
                                      refine lv_goto (tgt := 77) hx hb dX9_order_260 (by decide) ?_
                                      have e9 : orB r i (nI S) B (C + 1) = orB r i (nI S) B C := (if_pos (of_decide_eq_true c8)).trans ((if_neg c10).trans ((if_pos c14).trans (if_pos c18)))
                                      have hl : lv_has ls 11 [(9, .int (nI (C + 1))), (7, .int ((orB r i (nI S) B (C + 1)).2.1)), (8, .int ((orB r i (nI S) B (C + 1)).2.2)), (6, .int (nI (orB r i (nI S) B (C + 1)).1)), (10, .int (0)), (0, .ref (o 0)), (1, .int (i)), (2, .int (k)), (3, .int (nI S)), (4, .int (nI B)), (5, .int (nI (6 ^ B)))] := by rw [e9]; exact hl
                                      exact ih77 (C + 1) (orR r i C B B) (by omega) (by omega) _ _ hP hD hS _ (lv_sub hl [5, 6, 7, 8, 9, 10, 3, 1, 2, 0] rfl)
                                    · skip
                                      exact absurd c21 (by decide)
                                  · skip
                                    exact absurd c20 (by decide)
                                · skip
                                  exact absurd c19 (by decide)
                              · skip
                                have c18' := Int32.not_le.mp c18
                                refine lv_iconst (v := 1) hx hb dX9_order_194 rfl ?_
                                refine lv_goto (tgt := 199) hx hb dX9_order_195 (by decide) ?_
                                refine lv_istore (lv' := [(10, .int (1)), (0, .ref (o 0)), (1, .int (i)), (2, .int (k)), (3, .int (nI S)), (4, .int (nI B)), (5, .int (nI (6 ^ B))), (6, .int (nI (orB r i (nI S) B C).1)), (7, .int ((orB r i (nI S) B C).2.1)), (8, .int ((orB r i (nI S) B C).2.2)), (9, .int (nI C))]) hx hb dX9_order_199 hl (by decide) rfl (fun ls hl => ?_)
                                refine lv_iload hx hb dX9_order_201 (lv_at hl 0 rfl) ?_
                                refine lv_if_eq (tgt := 211) hx hb dX9_order_203 (by decide) (fun c22 => ?_) (fun c22 => ?_)
                                · skip
                                  exact absurd c22 (by decide)
                                · skip
                                  refine lv_iload hx hb dX9_order_206 (lv_at hl 10 rfl) ?_
                                  refine lv_goto (tgt := 213) hx hb dX9_order_208 (by decide) ?_
                                  refine lv_istore (lv' := [(6, .int (nI C)), (10, .int (1)), (0, .ref (o 0)), (1, .int (i)), (2, .int (k)), (3, .int (nI S)), (4, .int (nI B)), (5, .int (nI (6 ^ B))), (7, .int ((orB r i (nI S) B C).2.1)), (8, .int ((orB r i (nI S) B C).2.2)), (9, .int (nI C))]) hx hb dX9_order_213 hl (by decide) rfl (fun ls hl => ?_)
                                  refine lv_iload hx hb dX9_order_215 (lv_at hl 1 rfl) ?_
                                  refine lv_if_eq (tgt := 232) hx hb dX9_order_217 (by decide) (fun c23 => ?_) (fun c23 => ?_)
                                  · skip
                                    exact absurd c23 (by decide)
                                  · skip
                                    refine lv_aload_n hx hb dX9_order_220 rfl (lv_at hl 2 rfl) ?_
                                    refine kget hC.1 hK (kP_app.mp hP).1 0 rfl rfl in_9 4 (by decide) (gw_in m_964 rfl) rfl dX9_order_221 ?_
                                    refine lv_bipush (v := 33) hx hb dX9_order_224 rfl ?_
                                    refine lv_iload_n hx hb dX9_order_226 rfl (lv_at hl 3 rfl) ?_
                                    refine lv_iadd hx hb dX9_order_227 ?_
                                    refine kald (v := (orR r i C B B) (33 + cl i)) hC.1 hK (kP_app.mp (kP_app.mp (kP_app.mp (kP_app.mp hP).2).2).2).1 0 rfl (ix_in (K := 33) (yNut_in c1 hw.n6) (by omega) (by omega)) (congrArg (orR r i C B B) (show cl (33 + i) = 33 + cl i from ix_cl (K := 33) (yNut_in c1 hw.n6) (by omega))) dX9_order_228 ?_
                                    refine lv_goto (tgt := 234) hx hb dX9_order_229 (by decide) ?_
                                    refine lv_istore (lv' := [(8, .int ((orR r i C B B) (33 + cl i))), (6, .int (nI C)), (10, .int (1)), (0, .ref (o 0)), (1, .int (i)), (2, .int (k)), (3, .int (nI S)), (4, .int (nI B)), (5, .int (nI (6 ^ B))), (7, .int ((orB r i (nI S) B C).2.1)), (9, .int (nI C))]) hx hb dX9_order_234 hl (by decide) rfl (fun ls hl => ?_)
                                    refine lv_iload hx hb dX9_order_236 (lv_at hl 2 rfl) ?_
                                    refine lv_if_eq (tgt := 253) hx hb dX9_order_238 (by decide) (fun c24 => ?_) (fun c24 => ?_)
                                    · skip
                                      exact absurd c24 (by decide)
                                    · skip
                                      refine lv_aload_n hx hb dX9_order_241 rfl (lv_at hl 3 rfl) ?_
                                      refine kget hC.1 hK (kP_app.mp hP).1 0 rfl rfl in_9 4 (by decide) (gw_in m_964 rfl) rfl dX9_order_242 ?_
                                      refine lv_bipush (v := 39) hx hb dX9_order_245 rfl ?_
                                      refine lv_iload_n hx hb dX9_order_247 rfl (lv_at hl 4 rfl) ?_
                                      refine lv_iadd hx hb dX9_order_248 ?_
                                      refine kald (v := (orR r i C B B) (39 + cl i)) hC.1 hK (kP_app.mp (kP_app.mp (kP_app.mp (kP_app.mp hP).2).2).2).1 0 rfl (ix_in (K := 39) (yNut_in c1 hw.n6) (by omega) (by omega)) (congrArg (orR r i C B B) (show cl (39 + i) = 39 + cl i from ix_cl (K := 39) (yNut_in c1 hw.n6) (by omega))) dX9_order_249 ?_
                                      refine lv_goto (tgt := 255) hx hb dX9_order_250 (by decide) ?_
                                      refine lv_istore (lv' := [(7, .int ((orR r i C B B) (39 + cl i))), (8, .int ((orR r i C B B) (33 + cl i))), (6, .int (nI C)), (10, .int (1)), (0, .ref (o 0)), (1, .int (i)), (2, .int (k)), (3, .int (nI S)), (4, .int (nI B)), (5, .int (nI (6 ^ B))), (9, .int (nI C))]) hx hb dX9_order_255 hl (by decide) rfl (fun ls hl => ?_)
                                      refine lv_iinc (v := nI (C + 1)) (lv' := [(9, .int (nI (C + 1))), (7, .int ((orR r i C B B) (39 + cl i))), (8, .int ((orR r i C B B) (33 + cl i))), (6, .int (nI C)), (10, .int (1)), (0, .ref (o 0)), (1, .int (i)), (2, .int (k)), (3, .int (nI S)), (4, .int (nI B)), (5, .int (nI (6 ^ B)))]) hx hb dX9_order_257 hl (k := 10) rfl (inc_nI C) (by decide) rfl (fun ls hl => ?_)
                                      refine lv_goto (tgt := 77) hx hb dX9_order_260 (by decide) ?_
                                      have e9 : orB r i (nI S) B (C + 1) = (C, orR r i C B B (39 + cl i), orR r i C B B (33 + cl i)) := (if_pos (of_decide_eq_true c8)).trans ((if_neg c10).trans ((if_pos c14).trans (if_neg c18)))
                                      have hl : lv_has ls 11 [(9, .int (nI (C + 1))), (7, .int ((orB r i (nI S) B (C + 1)).2.1)), (8, .int ((orB r i (nI S) B (C + 1)).2.2)), (6, .int (nI (orB r i (nI S) B (C + 1)).1)), (10, .int (1)), (0, .ref (o 0)), (1, .int (i)), (2, .int (k)), (3, .int (nI S)), (4, .int (nI B)), (5, .int (nI (6 ^ B)))] := by rw [e9]; exact hl
                                      exact ih77 (C + 1) (orR r i C B B) (by omega) (by omega) _ _ hP hD hS _ (lv_sub hl [5, 6, 7, 8, 9, 10, 3, 1, 2, 0] rfl)
                        · skip
                          have c9' := Int32.not_le.mp c9
                          have hp9 : p < B := by rw [nI_leI (by omega) (by omega)] at c9; omega
                          refine lv_aload_n hx hb dX9_order_116 rfl (lv_at hl 0 rfl) ?_
                          refine kget hC.1 hK (kP_app.mp hP).1 0 rfl rfl in_9 4 (by decide) (gw_in m_964 rfl) rfl dX9_order_117 ?_
                          refine lv_iload_n hx hb dX9_order_120 rfl (lv_at hl 1 rfl) ?_
                          refine ro_i (run_S (As := [.ref (o 3), .int (i)]) (rest := []) hC.1 ckX9_isBroken (kX9_isBroken l g (o 3) (orR r i C B p) i hi) (gw_in m_1133 rfl) (fb_ro _ _ _) (fun U hU hW => ⟨by rw [hU]; exact (kP_app.mp (kP_app.mp (kP_app.mp (kP_app.mp hP).2).2).2).1, kK_warm hW hK⟩) ⟨rfl, rfl, Nat.le_of_ble_eq_true rfl, Nat.le_of_ble_eq_true rfl⟩ rfl hl.1 rfl (Nat.le_of_ble_eq_true rfl) dX9_order_121 ⟨Nat.le_of_ble_eq_true rfl, Nat.le_of_ble_eq_true rfl⟩) ?_
                          refine lv_if_ne (tgt := 152) hx hb dX9_order_124 (by decide) (fun c25 => ?_) (fun c25 => ?_)
                          · skip
                            have c25 := b2i_1 c25
                            have hfin : orR r i C B B = orR r i C B p := orR_stop c25 hp
                            have hP : kP g (mO g o ab be lm ra ta ti fa um ua hh ++ (aW g (o 1) 3 rf ++ (aW g (o 2) 45 r ++ (aW g (o 3) 45 (orR r i C B B) ++ [])))) _ := kP_eq (by rw [hfin]) hP
                            have hD : va_D _ (mO g o ab be lm ra ta ti fa um ua hh ++ (aW g (o 1) 3 rf ++ (aW g (o 2) 45 r ++ (aW g (o 3) 45 (orR r i C B B) ++ [])))) := vD_eq (by rw [hfin]) hD
                            have hsc : True := trivial
                            refine lv_aload_n hx hb dX9_order_152 rfl (lv_at hl 0 rfl) ?_
                            refine kget hC.1 hK (kP_app.mp hP).1 0 rfl rfl in_9 4 (by decide) (gw_in m_964 rfl) rfl dX9_order_153 ?_
                            refine lv_bipush (v := 39) hx hb dX9_order_156 rfl ?_
                            refine lv_iload_n hx hb dX9_order_158 rfl (lv_at hl 1 rfl) ?_
                            refine lv_iadd hx hb dX9_order_159 ?_
                            refine kald (v := (orR r i C B B) (39 + cl i)) hC.1 hK (kP_app.mp (kP_app.mp (kP_app.mp (kP_app.mp hP).2).2).2).1 0 rfl (ix_in (K := 39) (yNut_in c1 hw.n6) (by omega) (by omega)) (congrArg (orR r i C B B) (show cl (39 + i) = 39 + cl i from ix_cl (K := 39) (yNut_in c1 hw.n6) (by omega))) dX9_order_160 ?_
                            refine lv_iload hx hb dX9_order_161 (lv_at hl 7 rfl) ?_
                            refine lv_icmp_gt (tgt := 194) hx hb dX9_order_163 (by decide) (fun c26 => ?_) (fun c26 => ?_)
                            · skip
                              have c26' := Int32.not_le.mpr c26
                              refine lv_iconst (v := 1) hx hb dX9_order_194 rfl ?_
                              refine lv_goto (tgt := 199) hx hb dX9_order_195 (by decide) ?_
                              refine lv_istore (lv' := [(10, .int (1)), (0, .ref (o 0)), (1, .int (i)), (2, .int (k)), (3, .int (nI S)), (4, .int (nI B)), (5, .int (nI (6 ^ B))), (6, .int (nI (orB r i (nI S) B C).1)), (7, .int ((orB r i (nI S) B C).2.1)), (8, .int ((orB r i (nI S) B C).2.2)), (9, .int (nI C))]) hx hb dX9_order_199 hl (by decide) rfl (fun ls hl => ?_)
                              refine lv_iload hx hb dX9_order_201 (lv_at hl 0 rfl) ?_
                              refine lv_if_eq (tgt := 211) hx hb dX9_order_203 (by decide) (fun c27 => ?_) (fun c27 => ?_)
                              · skip
                                exact absurd c27 (by decide)
                              · skip
                                refine lv_iload hx hb dX9_order_206 (lv_at hl 10 rfl) ?_
                                refine lv_goto (tgt := 213) hx hb dX9_order_208 (by decide) ?_
                                refine lv_istore (lv' := [(6, .int (nI C)), (10, .int (1)), (0, .ref (o 0)), (1, .int (i)), (2, .int (k)), (3, .int (nI S)), (4, .int (nI B)), (5, .int (nI (6 ^ B))), (7, .int ((orB r i (nI S) B C).2.1)), (8, .int ((orB r i (nI S) B C).2.2)), (9, .int (nI C))]) hx hb dX9_order_213 hl (by decide) rfl (fun ls hl => ?_)
                                refine lv_iload hx hb dX9_order_215 (lv_at hl 1 rfl) ?_
                                refine lv_if_eq (tgt := 232) hx hb dX9_order_217 (by decide) (fun c28 => ?_) (fun c28 => ?_)
                                · skip
                                  exact absurd c28 (by decide)
                                · skip
                                  refine lv_aload_n hx hb dX9_order_220 rfl (lv_at hl 2 rfl) ?_
                                  refine kget hC.1 hK (kP_app.mp hP).1 0 rfl rfl in_9 4 (by decide) (gw_in m_964 rfl) rfl dX9_order_221 ?_
                                  refine lv_bipush (v := 33) hx hb dX9_order_224 rfl ?_
                                  refine lv_iload_n hx hb dX9_order_226 rfl (lv_at hl 3 rfl) ?_
                                  refine lv_iadd hx hb dX9_order_227 ?_
                                  refine kald (v := (orR r i C B B) (33 + cl i)) hC.1 hK (kP_app.mp (kP_app.mp (kP_app.mp (kP_app.mp hP).2).2).2).1 0 rfl (ix_in (K := 33) (yNut_in c1 hw.n6) (by omega) (by omega)) (congrArg (orR r i C B B) (show cl (33 + i) = 33 + cl i from ix_cl (K := 33) (yNut_in c1 hw.n6) (by omega))) dX9_order_228 ?_
                                  refine lv_goto (tgt := 234) hx hb dX9_order_229 (by decide) ?_
                                  refine lv_istore (lv' := [(8, .int ((orR r i C B B) (33 + cl i))), (6, .int (nI C)), (10, .int (1)), (0, .ref (o 0)), (1, .int (i)), (2, .int (k)), (3, .int (nI S)), (4, .int (nI B)), (5, .int (nI (6 ^ B))), (7, .int ((orB r i (nI S) B C).2.1)), (9, .int (nI C))]) hx hb dX9_order_234 hl (by decide) rfl (fun ls hl => ?_)
                                  refine lv_iload hx hb dX9_order_236 (lv_at hl 2 rfl) ?_
                                  refine lv_if_eq (tgt := 253) hx hb dX9_order_238 (by decide) (fun c29 => ?_) (fun c29 => ?_)
                                  · skip
                                    exact absurd c29 (by decide)
                                  · skip
                                    refine lv_aload_n hx hb dX9_order_241 rfl (lv_at hl 3 rfl) ?_
                                    refine kget hC.1 hK (kP_app.mp hP).1 0 rfl rfl in_9 4 (by decide) (gw_in m_964 rfl) rfl dX9_order_242 ?_
                                    refine lv_bipush (v := 39) hx hb dX9_order_245 rfl ?_
                                    refine lv_iload_n hx hb dX9_order_247 rfl (lv_at hl 4 rfl) ?_
                                    refine lv_iadd hx hb dX9_order_248 ?_
                                    refine kald (v := (orR r i C B B) (39 + cl i)) hC.1 hK (kP_app.mp (kP_app.mp (kP_app.mp (kP_app.mp hP).2).2).2).1 0 rfl (ix_in (K := 39) (yNut_in c1 hw.n6) (by omega) (by omega)) (congrArg (orR r i C B B) (show cl (39 + i) = 39 + cl i from ix_cl (K := 39) (yNut_in c1 hw.n6) (by omega))) dX9_order_249 ?_
                                    refine lv_goto (tgt := 255) hx hb dX9_order_250 (by decide) ?_
                                    refine lv_istore (lv' := [(7, .int ((orR r i C B B) (39 + cl i))), (8, .int ((orR r i C B B) (33 + cl i))), (6, .int (nI C)), (10, .int (1)), (0, .ref (o 0)), (1, .int (i)), (2, .int (k)), (3, .int (nI S)), (4, .int (nI B)), (5, .int (nI (6 ^ B))), (9, .int (nI C))]) hx hb dX9_order_255 hl (by decide) rfl (fun ls hl => ?_)
                                    refine lv_iinc (v := nI (C + 1)) (lv' := [(9, .int (nI (C + 1))), (7, .int ((orR r i C B B) (39 + cl i))), (8, .int ((orR r i C B B) (33 + cl i))), (6, .int (nI C)), (10, .int (1)), (0, .ref (o 0)), (1, .int (i)), (2, .int (k)), (3, .int (nI S)), (4, .int (nI B)), (5, .int (nI (6 ^ B)))]) hx hb dX9_order_257 hl (k := 10) rfl (inc_nI C) (by decide) rfl (fun ls hl => ?_)
                                    refine lv_goto (tgt := 77) hx hb dX9_order_260 (by decide) ?_
                                    have e9 : orB r i (nI S) B (C + 1) = (C, orR r i C B B (39 + cl i), orR r i C B B (33 + cl i)) := (if_pos (of_decide_eq_true c8)).trans (if_pos c26)
                                    have hl : lv_has ls 11 [(9, .int (nI (C + 1))), (7, .int ((orB r i (nI S) B (C + 1)).2.1)), (8, .int ((orB r i (nI S) B (C + 1)).2.2)), (6, .int (nI (orB r i (nI S) B (C + 1)).1)), (10, .int (1)), (0, .ref (o 0)), (1, .int (i)), (2, .int (k)), (3, .int (nI S)), (4, .int (nI B)), (5, .int (nI (6 ^ B)))] := by rw [e9]; exact hl
                                    exact ih77 (C + 1) (orR r i C B B) (by omega) (by omega) _ _ hP hD hS _ (lv_sub hl [5, 6, 7, 8, 9, 10, 3, 1, 2, 0] rfl)
                            · skip
                              have c26' := Int32.not_lt.mp c26
                              refine lv_aload_n hx hb dX9_order_166 rfl (lv_at hl 0 rfl) ?_
                              refine kget hC.1 hK (kP_app.mp hP).1 0 rfl rfl in_9 4 (by decide) (gw_in m_964 rfl) rfl dX9_order_167 ?_
                              refine lv_bipush (v := 39) hx hb dX9_order_170 rfl ?_
                              refine lv_iload_n hx hb dX9_order_172 rfl (lv_at hl 1 rfl) ?_
                              refine lv_iadd hx hb dX9_order_173 ?_
                              refine kald (v := (orR r i C B B) (39 + cl i)) hC.1 hK (kP_app.mp (kP_app.mp (kP_app.mp (kP_app.mp hP).2).2).2).1 0 rfl (ix_in (K := 39) (yNut_in c1 hw.n6) (by omega) (by omega)) (congrArg (orR r i C B B) (show cl (39 + i) = 39 + cl i from ix_cl (K := 39) (yNut_in c1 hw.n6) (by omega))) dX9_order_174 ?_
                              refine lv_iload hx hb dX9_order_175 (lv_at hl 7 rfl) ?_
                              refine lv_icmp_ne (tgt := 198) hx hb dX9_order_177 (by decide) (fun c30 => ?_) (fun c30 => ?_)
                              · skip
                                refine lv_iconst (v := 0) hx hb dX9_order_198 rfl ?_
                                refine lv_istore (lv' := [(10, .int (0)), (0, .ref (o 0)), (1, .int (i)), (2, .int (k)), (3, .int (nI S)), (4, .int (nI B)), (5, .int (nI (6 ^ B))), (6, .int (nI (orB r i (nI S) B C).1)), (7, .int ((orB r i (nI S) B C).2.1)), (8, .int ((orB r i (nI S) B C).2.2)), (9, .int (nI C))]) hx hb dX9_order_199 hl (by decide) rfl (fun ls hl => ?_)
                                refine lv_iload hx hb dX9_order_201 (lv_at hl 0 rfl) ?_
                                refine lv_if_eq (tgt := 211) hx hb dX9_order_203 (by decide) (fun c31 => ?_) (fun c31 => ?_)
                                · skip
                                  refine lv_iload hx hb dX9_order_211 (lv_at hl 7 rfl) ?_
                                  refine lv_istore (lv' := [(6, .int (nI (orB r i (nI S) B C).1)), (10, .int (0)), (0, .ref (o 0)), (1, .int (i)), (2, .int (k)), (3, .int (nI S)), (4, .int (nI B)), (5, .int (nI (6 ^ B))), (7, .int ((orB r i (nI S) B C).2.1)), (8, .int ((orB r i (nI S) B C).2.2)), (9, .int (nI C))]) hx hb dX9_order_213 hl (by decide) rfl (fun ls hl => ?_)
                                  refine lv_iload hx hb dX9_order_215 (lv_at hl 1 rfl) ?_
                                  refine lv_if_eq (tgt := 232) hx hb dX9_order_217 (by decide) (fun c32 => ?_) (fun c32 => ?_)
                                  · skip
                                    refine lv_iload hx hb dX9_order_232 (lv_at hl 9 rfl) ?_
                                    refine lv_istore (lv' := [(8, .int ((orB r i (nI S) B C).2.2)), (6, .int (nI (orB r i (nI S) B C).1)), (10, .int (0)), (0, .ref (o 0)), (1, .int (i)), (2, .int (k)), (3, .int (nI S)), (4, .int (nI B)), (5, .int (nI (6 ^ B))), (7, .int ((orB r i (nI S) B C).2.1)), (9, .int (nI C))]) hx hb dX9_order_234 hl (by decide) rfl (fun ls hl => ?_)
                                    refine lv_iload hx hb dX9_order_236 (lv_at hl 2 rfl) ?_
                                    refine lv_if_eq (tgt := 253) hx hb dX9_order_238 (by decide) (fun c33 => ?_) (fun c33 => ?_)
                                    · skip
                                      refine lv_iload hx hb dX9_order_253 (lv_at hl 9 rfl) ?_
                                      refine lv_istore (lv' := [(7, .int ((orB r i (nI S) B C).2.1)), (8, .int ((orB r i (nI S) B C).2.2)), (6, .int (nI (orB r i (nI S) B C).1)), (10, .int (0)), (0, .ref (o 0)), (1, .int (i)), (2, .int (k)), (3, .int (nI S)), (4, .int (nI B)), (5, .int (nI (6 ^ B))), (9, .int (nI C))]) hx hb dX9_order_255 hl (by decide) rfl (fun ls hl => ?_)
                                      refine lv_iinc (v := nI (C + 1)) (lv' := [(9, .int (nI (C + 1))), (7, .int ((orB r i (nI S) B C).2.1)), (8, .int ((orB r i (nI S) B C).2.2)), (6, .int (nI (orB r i (nI S) B C).1)), (10, .int (0)), (0, .ref (o 0)), (1, .int (i)), (2, .int (k)), (3, .int (nI S)), (4, .int (nI B)), (5, .int (nI (6 ^ B)))]) hx hb dX9_order_257 hl (k := 10) rfl (inc_nI C) (by decide) rfl (fun ls hl => ?_)
                                      refine lv_goto (tgt := 77) hx hb dX9_order_260 (by decide) ?_
                                      have e9 : orB r i (nI S) B (C + 1) = orB r i (nI S) B C := (if_pos (of_decide_eq_true c8)).trans ((if_neg c26).trans (if_neg c30))
                                      have hl : lv_has ls 11 [(9, .int (nI (C + 1))), (7, .int ((orB r i (nI S) B (C + 1)).2.1)), (8, .int ((orB r i (nI S) B (C + 1)).2.2)), (6, .int (nI (orB r i (nI S) B (C + 1)).1)), (10, .int (0)), (0, .ref (o 0)), (1, .int (i)), (2, .int (k)), (3, .int (nI S)), (4, .int (nI B)), (5, .int (nI (6 ^ B)))] := by rw [e9]; exact hl
                                      exact ih77 (C + 1) (orR r i C B B) (by omega) (by omega) _ _ hP hD hS _ (lv_sub hl [5, 6, 7, 8, 9, 10, 3, 1, 2, 0] rfl)
                                    · skip
                                      exact absurd c33 (by decide)
                                  · skip
                                    exact absurd c32 (by decide)
                                · skip
                                  exact absurd c31 (by decide)
                              · skip
                                refine lv_aload_n hx hb dX9_order_180 rfl (lv_at hl 0 rfl) ?_
                                refine kget hC.1 hK (kP_app.mp hP).1 0 rfl rfl in_9 4 (by decide) (gw_in m_964 rfl) rfl dX9_order_181 ?_
                                refine lv_bipush (v := 33) hx hb dX9_order_184 rfl ?_
                                refine lv_iload_n hx hb dX9_order_186 rfl (lv_at hl 1 rfl) ?_
                                refine lv_iadd hx hb dX9_order_187 ?_
                                refine kald (v := (orR r i C B B) (33 + cl i)) hC.1 hK (kP_app.mp (kP_app.mp (kP_app.mp (kP_app.mp hP).2).2).2).1 0 rfl (ix_in (K := 33) (yNut_in c1 hw.n6) (by omega) (by omega)) (congrArg (orR r i C B B) (show cl (33 + i) = 33 + cl i from ix_cl (K := 33) (yNut_in c1 hw.n6) (by omega))) dX9_order_188 ?_
                                refine lv_iload hx hb dX9_order_189 (lv_at hl 8 rfl) ?_
                                refine lv_icmp_ge (tgt := 198) hx hb dX9_order_191 (by decide) (fun c34 => ?_) (fun c34 => ?_)
                                · skip
                                  have c34' := Int32.not_lt.mpr c34
                                  refine lv_iconst (v := 0) hx hb dX9_order_198 rfl ?_
                                  refine lv_istore (lv' := [(10, .int (0)), (0, .ref (o 0)), (1, .int (i)), (2, .int (k)), (3, .int (nI S)), (4, .int (nI B)), (5, .int (nI (6 ^ B))), (6, .int (nI (orB r i (nI S) B C).1)), (7, .int ((orB r i (nI S) B C).2.1)), (8, .int ((orB r i (nI S) B C).2.2)), (9, .int (nI C))]) hx hb dX9_order_199 hl (by decide) rfl (fun ls hl => ?_)
                                  refine lv_iload hx hb dX9_order_201 (lv_at hl 0 rfl) ?_
                                  refine lv_if_eq (tgt := 211) hx hb dX9_order_203 (by decide) (fun c35 => ?_) (fun c35 => ?_)
                                  · skip
                                    refine lv_iload hx hb dX9_order_211 (lv_at hl 7 rfl) ?_
                                    refine lv_istore (lv' := [(6, .int (nI (orB r i (nI S) B C).1)), (10, .int (0)), (0, .ref (o 0)), (1, .int (i)), (2, .int (k)), (3, .int (nI S)), (4, .int (nI B)), (5, .int (nI (6 ^ B))), (7, .int ((orB r i (nI S) B C).2.1)), (8, .int ((orB r i (nI S) B C).2.2)), (9, .int (nI C))]) hx hb dX9_order_213 hl (by decide) rfl (fun ls hl => ?_)
                                    refine lv_iload hx hb dX9_order_215 (lv_at hl 1 rfl) ?_
                                    refine lv_if_eq (tgt := 232) hx hb dX9_order_217 (by decide) (fun c36 => ?_) (fun c36 => ?_)
                                    · skip
                                      refine lv_iload hx hb dX9_order_232 (lv_at hl 9 rfl) ?_
                                      refine lv_istore (lv' := [(8, .int ((orB r i (nI S) B C).2.2)), (6, .int (nI (orB r i (nI S) B C).1)), (10, .int (0)), (0, .ref (o 0)), (1, .int (i)), (2, .int (k)), (3, .int (nI S)), (4, .int (nI B)), (5, .int (nI (6 ^ B))), (7, .int ((orB r i (nI S) B C).2.1)), (9, .int (nI C))]) hx hb dX9_order_234 hl (by decide) rfl (fun ls hl => ?_)
                                      refine lv_iload hx hb dX9_order_236 (lv_at hl 2 rfl) ?_
                                      refine lv_if_eq (tgt := 253) hx hb dX9_order_238 (by decide) (fun c37 => ?_) (fun c37 => ?_)
                                      · skip
                                        refine lv_iload hx hb dX9_order_253 (lv_at hl 9 rfl) ?_
                                        refine lv_istore (lv' := [(7, .int ((orB r i (nI S) B C).2.1)), (8, .int ((orB r i (nI S) B C).2.2)), (6, .int (nI (orB r i (nI S) B C).1)), (10, .int (0)), (0, .ref (o 0)), (1, .int (i)), (2, .int (k)), (3, .int (nI S)), (4, .int (nI B)), (5, .int (nI (6 ^ B))), (9, .int (nI C))]) hx hb dX9_order_255 hl (by decide) rfl (fun ls hl => ?_)
                                        refine lv_iinc (v := nI (C + 1)) (lv' := [(9, .int (nI (C + 1))), (7, .int ((orB r i (nI S) B C).2.1)), (8, .int ((orB r i (nI S) B C).2.2)), (6, .int (nI (orB r i (nI S) B C).1)), (10, .int (0)), (0, .ref (o 0)), (1, .int (i)), (2, .int (k)), (3, .int (nI S)), (4, .int (nI B)), (5, .int (nI (6 ^ B)))]) hx hb dX9_order_257 hl (k := 10) rfl (inc_nI C) (by decide) rfl (fun ls hl => ?_)
                                        refine lv_goto (tgt := 77) hx hb dX9_order_260 (by decide) ?_
                                        have e9 : orB r i (nI S) B (C + 1) = orB r i (nI S) B C := (if_pos (of_decide_eq_true c8)).trans ((if_neg c26).trans ((if_pos c30).trans (if_pos c34)))
                                        have hl : lv_has ls 11 [(9, .int (nI (C + 1))), (7, .int ((orB r i (nI S) B (C + 1)).2.1)), (8, .int ((orB r i (nI S) B (C + 1)).2.2)), (6, .int (nI (orB r i (nI S) B (C + 1)).1)), (10, .int (0)), (0, .ref (o 0)), (1, .int (i)), (2, .int (k)), (3, .int (nI S)), (4, .int (nI B)), (5, .int (nI (6 ^ B)))] := by rw [e9]; exact hl
                                        exact ih77 (C + 1) (orR r i C B B) (by omega) (by omega) _ _ hP hD hS _ (lv_sub hl [5, 6, 7, 8, 9, 10, 3, 1, 2, 0] rfl)
                                      · skip
                                        exact absurd c37 (by decide)
                                    · skip
                                      exact absurd c36 (by decide)
                                  · skip
                                    exact absurd c35 (by decide)
                                · skip
                                  have c34' := Int32.not_le.mp c34
                                  refine lv_iconst (v := 1) hx hb dX9_order_194 rfl ?_
                                  refine lv_goto (tgt := 199) hx hb dX9_order_195 (by decide) ?_
                                  refine lv_istore (lv' := [(10, .int (1)), (0, .ref (o 0)), (1, .int (i)), (2, .int (k)), (3, .int (nI S)), (4, .int (nI B)), (5, .int (nI (6 ^ B))), (6, .int (nI (orB r i (nI S) B C).1)), (7, .int ((orB r i (nI S) B C).2.1)), (8, .int ((orB r i (nI S) B C).2.2)), (9, .int (nI C))]) hx hb dX9_order_199 hl (by decide) rfl (fun ls hl => ?_)
                                  refine lv_iload hx hb dX9_order_201 (lv_at hl 0 rfl) ?_
                                  refine lv_if_eq (tgt := 211) hx hb dX9_order_203 (by decide) (fun c38 => ?_) (fun c38 => ?_)
                                  · skip
                                    exact absurd c38 (by decide)
                                  · skip
                                    refine lv_iload hx hb dX9_order_206 (lv_at hl 10 rfl) ?_
                                    refine lv_goto (tgt := 213) hx hb dX9_order_208 (by decide) ?_
                                    refine lv_istore (lv' := [(6, .int (nI C)), (10, .int (1)), (0, .ref (o 0)), (1, .int (i)), (2, .int (k)), (3, .int (nI S)), (4, .int (nI B)), (5, .int (nI (6 ^ B))), (7, .int ((orB r i (nI S) B C).2.1)), (8, .int ((orB r i (nI S) B C).2.2)), (9, .int (nI C))]) hx hb dX9_order_213 hl (by decide) rfl (fun ls hl => ?_)
                                    refine lv_iload hx hb dX9_order_215 (lv_at hl 1 rfl) ?_
                                    refine lv_if_eq (tgt := 232) hx hb dX9_order_217 (by decide) (fun c39 => ?_) (fun c39 => ?_)
                                    · skip
                                      exact absurd c39 (by decide)
                                    · skip
                                      refine lv_aload_n hx hb dX9_order_220 rfl (lv_at hl 2 rfl) ?_
                                      refine kget hC.1 hK (kP_app.mp hP).1 0 rfl rfl in_9 4 (by decide) (gw_in m_964 rfl) rfl dX9_order_221 ?_
                                      refine lv_bipush (v := 33) hx hb dX9_order_224 rfl ?_
                                      refine lv_iload_n hx hb dX9_order_226 rfl (lv_at hl 3 rfl) ?_
                                      refine lv_iadd hx hb dX9_order_227 ?_
                                      refine kald (v := (orR r i C B B) (33 + cl i)) hC.1 hK (kP_app.mp (kP_app.mp (kP_app.mp (kP_app.mp hP).2).2).2).1 0 rfl (ix_in (K := 33) (yNut_in c1 hw.n6) (by omega) (by omega)) (congrArg (orR r i C B B) (show cl (33 + i) = 33 + cl i from ix_cl (K := 33) (yNut_in c1 hw.n6) (by omega))) dX9_order_228 ?_
                                      refine lv_goto (tgt := 234) hx hb dX9_order_229 (by decide) ?_
                                      refine lv_istore (lv' := [(8, .int ((orR r i C B B) (33 + cl i))), (6, .int (nI C)), (10, .int (1)), (0, .ref (o 0)), (1, .int (i)), (2, .int (k)), (3, .int (nI S)), (4, .int (nI B)), (5, .int (nI (6 ^ B))), (7, .int ((orB r i (nI S) B C).2.1)), (9, .int (nI C))]) hx hb dX9_order_234 hl (by decide) rfl (fun ls hl => ?_)
                                      refine lv_iload hx hb dX9_order_236 (lv_at hl 2 rfl) ?_
                                      refine lv_if_eq (tgt := 253) hx hb dX9_order_238 (by decide) (fun c40 => ?_) (fun c40 => ?_)
                                      · skip
                                        exact absurd c40 (by decide)
                                      · skip
                                        refine lv_aload_n hx hb dX9_order_241 rfl (lv_at hl 3 rfl) ?_
                                        refine kget hC.1 hK (kP_app.mp hP).1 0 rfl rfl in_9 4 (by decide) (gw_in m_964 rfl) rfl dX9_order_242 ?_
                                        refine lv_bipush (v := 39) hx hb dX9_order_245 rfl ?_
                                        refine lv_iload_n hx hb dX9_order_247 rfl (lv_at hl 4 rfl) ?_
                                        refine lv_iadd hx hb dX9_order_248 ?_
                                        refine kald (v := (orR r i C B B) (39 + cl i)) hC.1 hK (kP_app.mp (kP_app.mp (kP_app.mp (kP_app.mp hP).2).2).2).1 0 rfl (ix_in (K := 39) (yNut_in c1 hw.n6) (by omega) (by omega)) (congrArg (orR r i C B B) (show cl (39 + i) = 39 + cl i from ix_cl (K := 39) (yNut_in c1 hw.n6) (by omega))) dX9_order_249 ?_
                                        refine lv_goto (tgt := 255) hx hb dX9_order_250 (by decide) ?_
                                        refine lv_istore (lv' := [(7, .int ((orR r i C B B) (39 + cl i))), (8, .int ((orR r i C B B) (33 + cl i))), (6, .int (nI C)), (10, .int (1)), (0, .ref (o 0)), (1, .int (i)), (2, .int (k)), (3, .int (nI S)), (4, .int (nI B)), (5, .int (nI (6 ^ B))), (9, .int (nI C))]) hx hb dX9_order_255 hl (by decide) rfl (fun ls hl => ?_)
                                        refine lv_iinc (v := nI (C + 1)) (lv' := [(9, .int (nI (C + 1))), (7, .int ((orR r i C B B) (39 + cl i))), (8, .int ((orR r i C B B) (33 + cl i))), (6, .int (nI C)), (10, .int (1)), (0, .ref (o 0)), (1, .int (i)), (2, .int (k)), (3, .int (nI S)), (4, .int (nI B)), (5, .int (nI (6 ^ B)))]) hx hb dX9_order_257 hl (k := 10) rfl (inc_nI C) (by decide) rfl (fun ls hl => ?_)
                                        refine lv_goto (tgt := 77) hx hb dX9_order_260 (by decide) ?_
                                        have e9 : orB r i (nI S) B (C + 1) = (C, orR r i C B B (39 + cl i), orR r i C B B (33 + cl i)) := (if_pos (of_decide_eq_true c8)).trans ((if_neg c26).trans ((if_pos c30).trans (if_neg c34)))
                                        have hl : lv_has ls 11 [(9, .int (nI (C + 1))), (7, .int ((orB r i (nI S) B (C + 1)).2.1)), (8, .int ((orB r i (nI S) B (C + 1)).2.2)), (6, .int (nI (orB r i (nI S) B (C + 1)).1)), (10, .int (1)), (0, .ref (o 0)), (1, .int (i)), (2, .int (k)), (3, .int (nI S)), (4, .int (nI B)), (5, .int (nI (6 ^ B)))] := by rw [e9]; exact hl
                                        exact ih77 (C + 1) (orR r i C B B) (by omega) (by omega) _ _ hP hD hS _ (lv_sub hl [5, 6, 7, 8, 9, 10, 3, 1, 2, 0] rfl)
                          · skip
                            have c25 := b2i_0 c25
                            refine lv_aload_n hx hb dX9_order_127 rfl (lv_at hl 0 rfl) ?_
                            refine kget hC.1 hK (kP_app.mp hP).1 0 rfl rfl in_9 4 (by decide) (gw_in m_964 rfl) rfl dX9_order_128 ?_
                            refine lv_iload_n hx hb dX9_order_131 rfl (lv_at hl 1 rfl) ?_
                            refine lv_iload hx hb dX9_order_132 (lv_at hl 9 rfl) ?_
                            refine lv_iload hx hb dX9_order_134 (lv_at hl 4 rfl) ?_
                            refine lv_iload hx hb dX9_order_136 (lv_at hl 10 rfl) ?_
                            refine ro_i (run_S (As := [.int (nI C), .int (nI B), .int (nI p)]) (rest := [.int (i), .ref (o 3)]) hC.1 ckX9_placeIn (kX9_placeIn l C B p (by omega) hB6 hp9) (gw_in m_1264 rfl) (fb_nil _) (fun _ _ _ => trivial) ⟨rfl, rfl, Nat.le_of_ble_eq_true rfl, Nat.le_of_ble_eq_true rfl⟩ rfl hl.1 rfl (Nat.le_of_ble_eq_true rfl) dX9_order_138 ⟨Nat.le_of_ble_eq_true rfl, Nat.le_of_ble_eq_true rfl⟩) ?_
                            refine lv_iconst (v := 1) hx hb dX9_order_141 rfl ?_
                            have hP : kP g (aW g (o 3) 45 (orR r i C B p) ++ (mO g o ab be lm ra ta ti fa um ua hh ++ (aW g (o 1) 3 rf ++ (aW g (o 2) 45 r ++ [])))) _ := kP_perm (((pmA _ (pmA _ (pm_swap _ _ _))).trans (pmA _ (pm_swap _ _ _))).trans (pm_swap _ _ _)) hP
                            have hD : va_D _ (aW g (o 3) 45 (orR r i C B p) ++ (mO g o ab be lm ra ta ti fa um ua hh ++ (aW g (o 1) 3 rf ++ (aW g (o 2) 45 r ++ [])))) := vD_perm (((pmA _ (pmA _ (pm_swap _ _ _))).trans (pmA _ (pm_swap _ _ _))).trans (pm_swap _ _ _)) hD
                            refine rw_i (run_S (As := [.ref (o 3), .int (i), .int (nI (plI C B p)), .int (1)]) (rest := []) hC.1 ckX9_bouts (kX9_bouts l g (o 3) (orR r i C B p) i (nI (plI C B p)) true hwp hi (vp_in_nI (plI_lt C B p) (by omega))) (gw_in m_1240 rfl) (fb_rw _ _ _) (fun U hU hW => ⟨by rw [hU]; exact (kP_app.mpr ⟨(kP_app.mp hP).1, kP_nil⟩), kK_warm hW hK, vD_sub (sbA _ (sb0 _)) hD⟩) ⟨rfl, rfl, Nat.le_of_ble_eq_true rfl, Nat.le_of_ble_eq_true rfl⟩ rfl hl.1 rfl (Nat.le_of_ble_eq_true rfl) dX9_order_142 ⟨Nat.le_of_ble_eq_true rfl, Nat.le_of_ble_eq_true rfl⟩) (adr_app aW_adr rfl) (asc1 _ _) (ww' := aW g (o 3) 45 (btF true i (nI (plI C B p)) 60 0 (orR r i C B p)).2 ++ (mO g o ab be lm ra ta ti fa um ua hh ++ (aW g (o 1) 3 rf ++ (aW g (o 2) 45 r ++ [])))) (asc1 _ _) hP hD hS (fun H locs hP hD hS => ?_)
                            refine lv_pop hx hb dX9_order_145 rfl ?_
                            refine lv_iinc (v := nI (p + 1)) (lv' := [(10, .int (nI (p + 1))), (0, .ref (o 0)), (1, .int (i)), (2, .int (k)), (3, .int (nI S)), (4, .int (nI B)), (5, .int (nI (6 ^ B))), (6, .int (nI (orB r i (nI S) B C).1)), (7, .int ((orB r i (nI S) B C).2.1)), (8, .int ((orB r i (nI S) B C).2.2)), (9, .int (nI C))]) hx hb dX9_order_146 hl (k := 10) rfl (inc_nI p) (by decide) rfl (fun ls hl => ?_)
                            refine lv_goto (tgt := 109) hx hb dX9_order_149 (by decide) ?_
                            have e9 : orR r i C B (p + 1) = (btF true i (nI (plI C B p)) 60 0 (orR r i C B p)).2 := if_neg (by rw [c25]; decide)
                            have hP : kP g (aW g (o 3) 45 (orR r i C B (p + 1)) ++ (mO g o ab be lm ra ta ti fa um ua hh ++ (aW g (o 1) 3 rf ++ (aW g (o 2) 45 r ++ [])))) _ := kP_eq (by rw [e9]) hP
                            have hD : va_D _ (aW g (o 3) 45 (orR r i C B (p + 1)) ++ (mO g o ab be lm ra ta ti fa um ua hh ++ (aW g (o 1) 3 rf ++ (aW g (o 2) 45 r ++ [])))) := vD_eq (by rw [e9]) hD
                            have hP : kP g (mO g o ab be lm ra ta ti fa um ua hh ++ (aW g (o 1) 3 rf ++ (aW g (o 2) 45 r ++ (aW g (o 3) 45 (orR r i C B (p + 1)) ++ [])))) _ := kP_perm (((pm_swap _ _ _).trans (pmA _ (pm_swap _ _ _))).trans (pmA _ (pmA _ (pm_swap _ _ _)))) hP
                            have hD : va_D _ (mO g o ab be lm ra ta ti fa um ua hh ++ (aW g (o 1) 3 rf ++ (aW g (o 2) 45 r ++ (aW g (o 3) 45 (orR r i C B (p + 1)) ++ [])))) := vD_perm (((pm_swap _ _ _).trans (pmA _ (pm_swap _ _ _))).trans (pmA _ (pmA _ (pm_swap _ _ _)))) hD
                            exact ih109 (p + 1) (by omega) (by omega) _ _ hP hD hS _ (lv_sub hl [1, 2, 3, 4, 5, 6, 7, 8, 9, 10, 0] rfl)
                    have hP : kP g (aW g (o 2) 45 r ++ (aW g (o 3) 45 (orR r i C B 0) ++ (mO g o ab be lm ra ta ti fa um ua hh ++ (aW g (o 1) 3 rf ++ [])))) _ := kP_eq (by rfl) hP
                    have hD : va_D _ (aW g (o 2) 45 r ++ (aW g (o 3) 45 (orR r i C B 0) ++ (mO g o ab be lm ra ta ti fa um ua hh ++ (aW g (o 1) 3 rf ++ [])))) := vD_eq (by rfl) hD
                    have hP : kP g (mO g o ab be lm ra ta ti fa um ua hh ++ (aW g (o 1) 3 rf ++ (aW g (o 2) 45 r ++ (aW g (o 3) 45 (orR r i C B 0) ++ [])))) _ := kP_perm ((((pmA _ (pm_swap _ _ _)).trans (pm_swap _ _ _)).trans (pmA _ (pmA _ (pm_swap _ _ _)))).trans (pmA _ (pm_swap _ _ _))) hP
                    have hD : va_D _ (mO g o ab be lm ra ta ti fa um ua hh ++ (aW g (o 1) 3 rf ++ (aW g (o 2) 45 r ++ (aW g (o 3) 45 (orR r i C B 0) ++ [])))) := vD_perm ((((pmA _ (pm_swap _ _ _)).trans (pm_swap _ _ _)).trans (pmA _ (pmA _ (pm_swap _ _ _)))).trans (pmA _ (pm_swap _ _ _))) hD
                    exact cut109 _ 0 (Nat.lt_succ_self _) (by omega) _ _ hP hD hS _ (lv_sub hl [1, 2, 3, 4, 5, 6, 7, 8, 9, 10, 0] rfl)
            exact cut77 _ 0 tr (Nat.lt_succ_self _) (Nat.zero_le _) _ _ hP hD hS _ (lv_sub hl [4, 5, 6, 7, 8, 9, 3, 2, 1, 0] rfl)
          · skip
            have c3' := Int32.not_le.mp c3
            have hn9 : p < B := by rw [nI_leI (by omega) (by omega)] at c3; omega
            refine lv_iload hx hb dX9_order_52 (lv_at hl 5 rfl) ?_
            refine lv_bipush (v := 6) hx hb dX9_order_54 rfl ?_
            refine lv_imul hx hb dX9_order_56 ?_
            refine top_i (x := (nI (6 ^ p)) * 6) (y := nI (6 ^ (p + 1))) ((pk_mul _ 6).trans (by rw [Nat.pow_succ])) ?_
            refine lv_istore (lv' := [(5, .int (nI (6 ^ (p + 1)))), (0, .ref (o 0)), (1, .int (i)), (2, .int (k)), (3, .int (nI S)), (4, .int (nI B)), (6, .int (nI p))]) hx hb dX9_order_57 hl (by decide) rfl (fun ls hl => ?_)
            refine lv_iinc (v := nI (p + 1)) (lv' := [(6, .int (nI (p + 1))), (5, .int (nI (6 ^ (p + 1)))), (0, .ref (o 0)), (1, .int (i)), (2, .int (k)), (3, .int (nI S)), (4, .int (nI B))]) hx hb dX9_order_59 hl (k := 6) rfl (inc_nI p) (by decide) rfl (fun ls hl => ?_)
            refine lv_goto (tgt := 45) hx hb dX9_order_62 (by decide) ?_
            exact ih45 (p + 1) (by omega) (by omega) _ _ hP hD hS _ (lv_sub hl [2, 3, 4, 5, 6, 1, 0] rfl)
      exact cut45 _ 0 (Nat.lt_succ_self _) (by omega) _ _ hP hD hS _ (lv_sub hl [4, 5, 6, 3, 2, 1, 0] rfl)
    · skip
      have c2' := Int32.not_le.mp c2
      refine lv_aload_n hx hb dX9_order_17 rfl (lv_at hl 0 rfl) ?_
      refine lv_bipush (v := -10) hx hb dX9_order_18 rfl ?_
      refine rw_i (run_V (As := [.int (-10)]) (rest := []) hC.1 ckX9_bad (kX9_bad l g o ab be lm ra ta ti fa um ua hh rf (-10)) (gw_in m_1041 rfl) (fb_rw _ _ _) (va_recv hK.1 (kP_app.mp hP).1 (q0 := 0) rfl rfl) (fun U hU hW => ⟨by rw [hU]; exact (kP_app.mpr ⟨(kP_app.mp hP).1, (kP_app.mpr ⟨(kP_app.mp (kP_app.mp hP).2).1, kP_nil⟩)⟩), kK_warm hW hK, vD_sub (sbA _ (sbA _ (sb0 _))) hD⟩) ⟨rfl, rfl, Nat.le_of_ble_eq_true rfl, Nat.le_of_ble_eq_true rfl⟩ rfl hl.1 rfl (Nat.le_of_ble_eq_true rfl) dX9_order_20 ⟨Nat.le_of_ble_eq_true rfl, Nat.le_of_ble_eq_true rfl⟩) (adr_app rfl (adr_app aW_adr rfl)) (asc2 _ _ _) (ww' := mO g o ab be lm ra ta ti fa um ua hh ++ (aW g (o 1) 3 (upd rf 0 (rf 0 + 1)) ++ (aW g (o 2) 45 r ++ (aW g (o 3) 45 tr ++ [])))) (asc2 _ _ _) hP hD hS (fun H locs hP hD hS => ?_)
      exact ret_rxi (S := (Nat → Int32)) tr hx hb hr hlk (by rw [if_neg (fun h => by simp only [c1, Bool.true_and, decide_eq_true_eq] at h; exact c2 h)]) (kP_eq (by rw [if_neg (fun h => by simp only [c1, Bool.true_and, decide_eq_true_eq] at h; exact c2 h)]) hP) hS dX9_order_23
