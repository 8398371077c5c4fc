set_option maxHeartbeats 4000000 in
set_option maxRecDepth 100000 in
theorem whole_start {p : Program} {e : Env} {s : State} {m : MethodId} {below : List Frame} {meth : Method} {c : Code} (l : Launch) (hflags : l.flags = flags0) {b L : Nat} {xs : Nat → Int32} (hL : L ≤ 3584) (C0 : lw_At p s m meth c b L xs) : W p l e room_1 s m #[Value.ref b] below meth c s.heap [] 0 0 (lw_Z below #[Value.ref b] s) (entryFrame m ([Value.ref b] : List Value).toArray 4) := by
  obtain ⟨hx, hb, hr, hml, hown, hts0, hX, hbl, hlk, hgv⟩ := id C0
  obtain ⟨g, hK, oY, oG⟩ := st_K hts0
  obtain ⟨q9, hZ⟩ := st_S hts0 hgv
  have hts : ∀ w ∈ gw, w.before #[Value.ref b] s = true := fun w hw => hts0 w (List.mem_filter.mp hw).1
  have hC : CallFix p m c cL_law 4 s #[Value.ref b] gw "ConkerBoutsLaw" ∧ True := ⟨⟨hx, hb, hml, hown, hts⟩, trivial⟩
  have hO : ∀ o ∈ ["ConkerBouts$Yard", "ConkerBouts$Game"], va_AO o s := fun o ho => by
    rcases List.mem_cons.mp ho with rfl | ho
    · exact oY
    · rcases List.mem_cons.mp ho with rfl | ho
      · exact oG
      · exact absurd ho List.not_mem_nil
  have hA : ∀ q : Nat, s.heap.size ≤ q → (fun q9 : Nat => s.heap.size ≤ q9) q := fun _ h => h
  have hS : va_S (fun q9 : Nat => s.heap.size ≤ q9) s.heap s.heap [] := va_S.rf
  have hP : kP g [] s.heap := kP_nil
  have hD : va_D (fun q9 : Nat => s.heap.size ≤ q9) [] := ⟨fun i j p q h => by simp at h, fun k q h => by simp at h⟩
  have hl := lv_entry ([.ref b]) (n := 4) (Nat.le_of_ble_eq_true rfl)
  rw [lg_entry_eq]
  generalize (lg_sl ([.ref b]) ++ List.replicate (4 - (lg_sl ([.ref b])).length) Slot.unset).toArray = ls at hl ⊢
  have hl : lv_has ls 4 [(0, .ref b)] := hl
  refine knew (ci := 7) (fs := [.null, .null, .null, .null, .null, .long 0, .long 0, .int 0, .int 0, .int 0]) hC.1 hK in_8 tyX8 tyX8_ok (gw_in m_79 rfl) (gw_in m_80 rfl) (gw_in m_62 rfl) hP hD hS hA rfl (df_8) (Nat.le_of_ble_eq_true rfl) (Nat.le_of_ble_eq_true rfl) dL_law_0 (fun q0 H hP hD hS => ?_)
  refine lv_dup hx hb dL_law_3 rfl ?_
  refine nw_v (run_I (rm := rmA 3 93 1005) (As := []) (rest := [.ref q0]) hC.1 ckX8_init (nX8_init l g q0 H.size) (gw_in m_81 rfl) (fb_nwO _ _ _ _ _) (fun U hU hW => ⟨⟨by rw [hU], by rw [hU]; exact (kP_app.mp hP).1, kK_warm hW hK, vD_sub (List.sublist_append_left _ _) hD⟩, fun o ho => va_AO.moved hW.alike (hO o ho)⟩) ⟨rfl, rfl, (Nat.le_of_ble_eq_true rfl), (Nat.le_of_ble_eq_true rfl)⟩ rfl hl.1 rfl (Nat.le_of_ble_eq_true rfl) dL_law_4 ⟨(Nat.le_of_ble_eq_true rfl), (Nat.le_of_ble_eq_true rfl)⟩) rfl hP hD hS hA (fun u H locs hpo hP1 hD1 hS1 => ?_)
  obtain ⟨ya, y, yy, yp, y1, y2, y3, ye, yt, yc, yx, yu, im9⟩ := u
  have hpo : ya 0 = q0 := hpo
  subst hpo
  have hP := hP1
  have hD := hD1
  have hS := hS1
  refine lv_astore_n (lv' := [(1, .ref (ya 0)), (0, .ref b)]) hx hb dL_law_7 rfl hl (by decide) rfl (fun ls hl => ?_)
  refine knew (ci := 8) (fs := [.null, .long 0, .long 0, .null, .null, .null, .null, .int 0, .null, .int 0, .int 0, .int 0, .int 0, .int 0, .int 0, .null, .null, .null, .null, .null, .null, .null, .null, .long 0]) hC.1 hK in_9 tyX9 tyX9_ok (gw_in m_954 rfl) (gw_in m_955 rfl) (gw_in m_71 rfl) hP hD hS hA rfl (df_9) (Nat.le_of_ble_eq_true rfl) (Nat.le_of_ble_eq_true rfl) dL_law_8 (fun q1 H hP hD hS => ?_)
  refine lv_dup hx hb dL_law_11 rfl ?_
  refine nw_v (run_I (rm := rmA 1 14 1818) (As := []) (rest := [.ref q1]) hC.1 ckX9_init (nX9_init l g q1 H.size) (gw_in m_956 rfl) (fb_nw _ _ _ _) (fun U hU hW => ⟨by rw [hU], by rw [hU]; exact (kP_app.mp hP).1, kK_warm hW hK, vD_sub (List.sublist_append_left _ _) hD⟩) ⟨rfl, rfl, (Nat.le_of_ble_eq_true rfl), (Nat.le_of_ble_eq_true rfl)⟩ rfl hl.1 rfl (Nat.le_of_ble_eq_true rfl) dL_law_12 ⟨(Nat.le_of_ble_eq_true rfl), (Nat.le_of_ble_eq_true rfl)⟩) rfl hP hD hS hA (fun o H locs hpo hP1 hD1 hS1 => ?_)
  have hpo : o 0 = q1 := hpo
  subst hpo
  have hP := hP1
  have hD := hD1
  have hS := hS1
  refine lv_astore_n (lv' := [(2, .ref (o 0)), (1, .ref (ya 0)), (0, .ref b)]) hx hb dL_law_15 rfl hl (by decide) rfl (fun ls hl => ?_)
  refine lv_iconst (v := 0) hx hb dL_law_16 rfl ?_
  refine lv_istore_n (lv' := [(3, .int 0), (2, .ref (o 0)), (1, .ref (ya 0)), (0, .ref b)]) hx hb dL_law_17 rfl hl (by decide) rfl (fun ls hl => ?_)
  refine W.widen (show _ ≤ 109 + 18 * 0 from (Nat.le_of_ble_eq_true rfl)) (show _ ≤ 2857 + 329 * 0 from (Nat.le_of_ble_eq_true rfl)) ?_
  have hP : kP g (cWl g ya y yy yp y1 y2 y3 ye yt yc yu yx im9 0 1 0 0 0 (fun _ => 0) 0 (fun _ => 0) 0 0 0 (fun _ => 0) (fun _ => 0) (fun _ => 0) 0 0 (fun _ => 0) 0 0 0 0 0 0 (fun _ => 0) (fun _ => 0) (fun _ => 0) (fun _ => 0) (fun _ => 0) (fun _ => 0) (fun _ => 0) (fun _ => 0) (fun _ => 0) (fun _ => 0) (fun _ => 0) (fun _ => 0) (fun _ => 0) (fun _ => none) [] [] ++ mWl g o 0 1 0 0 0 0 0 0 0 0 (fun _ => 0) (fun _ => 0) (fun _ => 0) (fun _ => 0) (fun _ => 0) (fun _ => 0) (fun _ => 0) (fun _ => 0) (fun _ => 0) (fun _ => 0) (fun _ => 0) (fun _ => 0) (fun _ => 0) (fun _ => 0)) H := kP_com (kP_eq (by simp only [cWl, mWl, jW, List.append_assoc, List.append_nil, List.nil_append]) hP)
  have hD : va_D _ (cWl g ya y yy yp y1 y2 y3 ye yt yc yu yx im9 0 1 0 0 0 (fun _ => 0) 0 (fun _ => 0) 0 0 0 (fun _ => 0) (fun _ => 0) (fun _ => 0) 0 0 (fun _ => 0) 0 0 0 0 0 0 (fun _ => 0) (fun _ => 0) (fun _ => 0) (fun _ => 0) (fun _ => 0) (fun _ => 0) (fun _ => 0) (fun _ => 0) (fun _ => 0) (fun _ => 0) (fun _ => 0) (fun _ => 0) (fun _ => 0) (fun _ => none) [] [] ++ mWl g o 0 1 0 0 0 0 0 0 0 0 (fun _ => 0) (fun _ => 0) (fun _ => 0) (fun _ => 0) (fun _ => 0) (fun _ => 0) (fun _ => 0) (fun _ => 0) (fun _ => 0) (fun _ => 0) (fun _ => 0) (fun _ => 0) (fun _ => 0) (fun _ => 0)) := vD_com (vD_eq (by simp only [cWl, mWl, jW, List.append_assoc, List.append_nil, List.nil_append]) hD)
  have w0 : Wf (fun _ => 0) := Wf_cong (r := upd (fun _ => 0) 0 0) (fun k _ => by unfold upd; exact ite_self _) (Wf_zero ⟨by decide, by decide⟩)
  have hG : GR (fun _ => 0) 0 (fun _ => 0) 0 0 0 (fun _ => 0) (fun _ => 0) (fun _ => 0) (fun _ => 0) 0 0 (fun _ => 0) (fun _ => 0) := ⟨w0, w0, Lv_rf _, PR_0 (by decide), ⟨rfl, rfl, rfl, by decide, by decide, by decide, fun j hj => absurd hj (Nat.not_lt_zero _), fun j hj => absurd hj (Nat.not_lt_zero _), fun j hj => absurd hj (Nat.not_lt_zero _), fun j hj => absurd hj (Nat.not_lt_zero _), fun j hj => absurd hj (Nat.not_lt_zero _)⟩⟩
  have hI : lwI g ya y yy yp y1 y2 y3 ye yt yc yu yx im9 o (fun q9 : Nat => s.heap.size ≤ q9) H := ⟨_, _, _, _, _, _, _, _, _, _, _, _, _, _, _, _, _, _, _, _, _, _, _, _, _, _, _, _, _, _, _, _, _, _, _, _, _, _, _, _, _, _, _, _, _, _, _, _, _, _, _, _, _, _, _, _, _, _, _, _, _, _, _, hP, hD, hG, ⟨rfl, rfl, rfl, rfl, rfl⟩, ⟨rfl, by decide, rfl⟩, ⟨w0, w0⟩, Or.inl ⟨rfl, rfl, rfl⟩, Or.inl ⟨rfl, rfl, rfl⟩⟩
  exact lw_loop l g hC hr hlk hK q9 hZ hX hbl hL (L / 7) 0 H locs ls (by omega) (by omega) hI hS (lv_sub hl [3, 2, 1, 0] rfl)
