theorem w012 {w : Int32} (h : wth w 0 2 = true) : w = 0 ∨ w = 1 ∨ w = 2 := by
  rw [wth_ti, show (0 : Int32).toInt = 0 from rfl, show (2 : Int32).toInt = 2 from rfl] at h
  by_cases e : w.toInt = 0
  · exact Or.inl (Int32.toInt_inj.mp e)
  · by_cases e1 : w.toInt = 1
    · exact Or.inr (Or.inl (Int32.toInt_inj.mp e1))
    · exact Or.inr (Or.inr (Int32.toInt_inj.mp (by rw [show (2 : Int32).toInt = 2 from rfl]; omega)))
set_option maxHeartbeats 4000000 in
set_option maxRecDepth 100000 in
theorem lc_32 (l : Launch) (g : gG) {pp : Program} {ee : Env} {ss : State} {mm : MethodId} {ar : Array Value} {bl : List Frame} {mt : Method} {cd : Code} {H : Heap} {locs : List Loc} {cells slots : Nat} {Q : State → Prop} {ls : Array Slot} (hC : CallFix pp mm cd cL_law 4 ss ar gw "ConkerBoutsLaw" ∧ True) (hK : kK g ss) (q9 : sQ) (hZ : kS q9 (fun q9 => ss.heap.size ≤ q9) ss ss.heap) {b L n7 : Nat} {xs : Nat → Int32} (hX : va_X b L xs ss ss.heap) (hbl : b < ss.heap.size) (h7 : 7 * n7 + 7 ≤ L) (hL7 : L < 2147483648) {x a ay ap b1 b2 b3 e t c u : Nat → Nat} {sx : Nat → Nat → Nat} {im : Nat} {o : Nat → Nat} (hI : lwI g x a ay ap b1 b2 b3 e t c u sx im o (fun q9 => ss.heap.size ≤ q9) H) (hS : va_S (fun q9 => ss.heap.size ≤ q9) ss.heap H locs) (hcl : cells ≤ room_1.cells) (hsl : slots ≤ room_1.slots) (hl : lv_has ls 4 [(0, .ref (b)), (1, .ref (x 0)), (2, .ref (o 0)), (3, .int (nI (7 * n7)))]) (K : ∀ (H : Heap) (locs : List Loc) (ls : Array Slot), lwI g x a ay ap b1 b2 b3 e t c u sx im o (fun q9 => ss.heap.size ≤ q9) H → va_S (fun q9 => ss.heap.size ≤ q9) ss.heap H locs → lv_has ls 4 [(0, .ref (b)), (1, .ref (x 0)), (2, .ref (o 0)), (3, .int (nI (7 * n7)))] → W pp l ee room_1 ss mm ar bl mt cd H locs cells slots Q (F0 mm 1398 ls [])) : W pp l ee room_1 ss mm ar bl mt cd H locs cells slots Q (F0 mm 1268 ls []) := by
  obtain ⟨hx, hb, hml, hown, hts⟩ := id hC.1
  have hbA : ¬ ss.heap.size ≤ b := by omega
  obtain ⟨ab, be, tb, tn, tf, r, N, f, N1, N2, N3, f1, f2, f3, tN, flt, tx, so, sta, beh, va, bs, bc, p1, p2, p3, p4, p5, rg, r0, r1, r2, r3, r4, r5, uf, fi, J0, J1, abm, bem, lm, ra, ta, ti, fa, um, ua, hh, rf, q, tr, ot, tl, txm, ud, gn, zk, kn, kt, ku, km, ka, hP, hD, hR⟩ := hI
  obtain ⟨hG, ⟨rfl, rfl, rfl, rfl, rfl⟩, ⟨rfl, hT150, rfl⟩, ⟨hwg, hwo⟩, hI0, hI1⟩ := hR
  have hwr := hG.1
  have hwq := hG.2.1
  have hLv := hG.2.2.1
  have hPR := hG.2.2.2.1
  have hTl := hG.2.2.2.2
  have hNu := hPR.1
  have hN8 := hPR.2.1
  have hua8 := hPR.2.2.1
  have hum8 : um ≤ 8 := by omega
  obtain ⟨ht0, ht26, ht63, hN15, hN26, hN36, -, -, -, hbf1, hbf2⟩ := id hTl
  have hP : kP g (cO g x (a 0) im (e 0) (t 0) (u 0) ab be (rf 0) (rf 1) (rf 2) ++ (gW g a (ay 0) (ap 0) (b1 0) (b2 0) (b3 0) ++ (yW g ay r ++ (pW g ap N f ++ (rW g b1 N1 5 f1 ++ (rW g b2 N2 6 f2 ++ (rW g b3 N3 6 f3 ++ (xW g e tN flt tx so sta beh va ++ (tW g t (c 0) (fun k9 => sx k9 0) bs bc p1 p2 p3 p4 p5 ++ (yW g c rg ++ (yW g (sx 0) r0 ++ (yW g (sx 1) r1 ++ (yW g (sx 2) r2 ++ (yW g (sx 3) r3 ++ (yW g (sx 4) r4 ++ (yW g (sx 5) r5 ++ (uW g u uf ++ (gQ g im fi ++ (jW J0 ++ (jW J1 ++ (jW (mWl g o ab be tN ra ta ti fa um ua hh rf q tr ot tl tx ud gn zk kn kt ku km ka) ++ []))))))))))))))))))))) _ := kP_eq cWl_eq.symm hP
  have hD : va_D _ (cO g x (a 0) im (e 0) (t 0) (u 0) ab be (rf 0) (rf 1) (rf 2) ++ (gW g a (ay 0) (ap 0) (b1 0) (b2 0) (b3 0) ++ (yW g ay r ++ (pW g ap N f ++ (rW g b1 N1 5 f1 ++ (rW g b2 N2 6 f2 ++ (rW g b3 N3 6 f3 ++ (xW g e tN flt tx so sta beh va ++ (tW g t (c 0) (fun k9 => sx k9 0) bs bc p1 p2 p3 p4 p5 ++ (yW g c rg ++ (yW g (sx 0) r0 ++ (yW g (sx 1) r1 ++ (yW g (sx 2) r2 ++ (yW g (sx 3) r3 ++ (yW g (sx 4) r4 ++ (yW g (sx 5) r5 ++ (uW g u uf ++ (gQ g im fi ++ (jW J0 ++ (jW J1 ++ (jW (mWl g o ab be tN ra ta ti fa um ua hh rf q tr ot tl tx ud gn zk kn kt ku km ka) ++ []))))))))))))))))))))) := vD_eq cWl_eq.symm hD
  refine lv_aload_n hx hb dL_law_1268 rfl (lv_at hl 1 rfl) ?_
  refine lv_aload_n hx hb dL_law_1269 rfl (lv_at hl 0 rfl) ?_
  refine lv_iload_n hx hb dL_law_1270 rfl (lv_at hl 3 rfl) ?_
  refine lv_iconst (v := 1) hx hb dL_law_1271 rfl ?_
  refine lv_iadd hx hb dL_law_1272 ?_
  refine top_i (x := nI (7 * n7) + 1) (y := nI (7 * n7 + 1)) (x7_add (k := 1)) ?_
  refine va_sld hx hb hX hbl hbA hS (x7_in h7 (by decide) hL7) dL_law_1273 ?_
  refine top_i (x := xs (nI (7 * n7 + 1)).toNatClampNeg) (y := xs (7 * n7 + 1)) (x7_cl h7 (by decide) hL7) ?_
  refine rw_l (run_V (As := [.int (xs (7 * n7 + 1))]) (rest := []) hC.1 ckX8_part (kX8_part l g x (a 0) im (e 0) (t 0) (u 0) ab be (rf 0) (rf 1) (rf 2) (xs (7 * n7 + 1))) (gw_in m_892 rfl) (fb_rw _ _ _) (va_recv hK.1 (kP_app.mp hP).1 (q0 := 0) rfl rfl) (fun U hU hW => ⟨by rw [hU]; exact (kP_app.mpr ⟨(kP_app.mp hP).1, kP_nil⟩), kK_warm hW hK, vD_sub (sbA _ (sb0 _)) hD⟩) ⟨rfl, rfl, Nat.le_of_ble_eq_true rfl, Nat.le_of_ble_eq_true rfl⟩ rfl hl.1 rfl (Nat.le_of_ble_eq_true rfl) dL_law_1274 ⟨hcl, hsl⟩) (adr_app cO_adr rfl) (asc1 _ _) (ww' := cO g x (a 0) im (e 0) (t 0) (u 0) ab be (if wth (xs (7 * n7 + 1)) 0 1 = true then (rf 0) else (rf 0) + 1) (rf 1) (rf 2) ++ (gW g a (ay 0) (ap 0) (b1 0) (b2 0) (b3 0) ++ (yW g ay r ++ (pW g ap N f ++ (rW g b1 N1 5 f1 ++ (rW g b2 N2 6 f2 ++ (rW g b3 N3 6 f3 ++ (xW g e tN flt tx so sta beh va ++ (tW g t (c 0) (fun k9 => sx k9 0) bs bc p1 p2 p3 p4 p5 ++ (yW g c rg ++ (yW g (sx 0) r0 ++ (yW g (sx 1) r1 ++ (yW g (sx 2) r2 ++ (yW g (sx 3) r3 ++ (yW g (sx 4) r4 ++ (yW g (sx 5) r5 ++ (uW g u uf ++ (gQ g im fi ++ (jW J0 ++ (jW J1 ++ (jW (mWl g o ab be tN ra ta ti fa um ua hh rf q tr ot tl tx ud gn zk kn kt ku km ka) ++ []))))))))))))))))))))) (asc1 _ _) hP hD hS (fun H locs hP hD hS => ?_)
  have hP : kP g (cWl g x a ay ap b1 b2 b3 e t c u sx im ab be (if wth (xs (7 * n7 + 1)) 0 1 = true then (rf 0) else (rf 0) + 1) (rf 1) (rf 2) r N f N1 N2 N3 f1 f2 f3 tN flt tx so sta beh va bs bc p1 p2 p3 p4 p5 rg r0 r1 r2 r3 r4 r5 uf fi J0 J1 ++ mWl g o ab be tN ra ta ti fa um ua hh rf q tr ot tl tx ud gn zk kn kt ku km ka) _ := kP_eq cWl_eq hP
  have hD : va_D _ (cWl g x a ay ap b1 b2 b3 e t c u sx im ab be (if wth (xs (7 * n7 + 1)) 0 1 = true then (rf 0) else (rf 0) + 1) (rf 1) (rf 2) r N f N1 N2 N3 f1 f2 f3 tN flt tx so sta beh va bs bc p1 p2 p3 p4 p5 rg r0 r1 r2 r3 r4 r5 uf fi J0 J1 ++ mWl g o ab be tN ra ta ti fa um ua hh rf q tr ot tl tx ud gn zk kn kt ku km ka) := vD_eq cWl_eq hD
  generalize hCW : cWl g x a ay ap b1 b2 b3 e t c u sx im ab be (if wth (xs (7 * n7 + 1)) 0 1 = true then (rf 0) else (rf 0) + 1) (rf 1) (rf 2) r N f N1 N2 N3 f1 f2 f3 tN flt tx so sta beh va bs bc p1 p2 p3 p4 p5 rg r0 r1 r2 r3 r4 r5 uf fi J0 J1 = CW at hP hD
  have hP : kP g (mO g o ab be tN ra ta ti fa um ua hh ++ (aW g (o 1) 3 rf ++ (aW g (o 2) 45 q ++ (aW g (o 3) 45 tr ++ (aW g (o 4) 45 ot ++ (aW g (o 5) 94 tl ++ (aW g (o 6) 150 tx ++ (aW g (o 7) 360 ud ++ (aW g (o 8) 72 gn ++ (zW g (o 9) 2 zk ++ (aW g (o 10) 90 kn ++ (aW g (o 11) 188 kt ++ (aW g (o 12) 720 ku ++ (aW g (o 13) 2 km ++ (aW g (o 14) 2 ka ++ (jW CW ++ [])))))))))))))))) _ := kP_eq mWl_eq.symm (kP_com hP)
  have hD : va_D _ (mO g o ab be tN ra ta ti fa um ua hh ++ (aW g (o 1) 3 rf ++ (aW g (o 2) 45 q ++ (aW g (o 3) 45 tr ++ (aW g (o 4) 45 ot ++ (aW g (o 5) 94 tl ++ (aW g (o 6) 150 tx ++ (aW g (o 7) 360 ud ++ (aW g (o 8) 72 gn ++ (zW g (o 9) 2 zk ++ (aW g (o 10) 90 kn ++ (aW g (o 11) 188 kt ++ (aW g (o 12) 720 ku ++ (aW g (o 13) 2 km ++ (aW g (o 14) 2 ka ++ (jW CW ++ [])))))))))))))))) := vD_eq mWl_eq.symm (vD_com hD)
  refine lv_aload_n hx hb dL_law_1277 rfl (lv_at hl 2 rfl) ?_
  refine lv_aload_n hx hb dL_law_1278 rfl (lv_at hl 0 rfl) ?_
  refine lv_iload_n hx hb dL_law_1279 rfl (lv_at hl 3 rfl) ?_
  refine lv_iconst (v := 1) hx hb dL_law_1280 rfl ?_
  refine lv_iadd hx hb dL_law_1281 ?_
  refine top_i (x := nI (7 * n7) + 1) (y := nI (7 * n7 + 1)) (x7_add (k := 1)) ?_
  refine va_sld hx hb hX hbl hbA hS (x7_in h7 (by decide) hL7) dL_law_1282 ?_
  refine top_i (x := xs (nI (7 * n7 + 1)).toNatClampNeg) (y := xs (7 * n7 + 1)) (x7_cl h7 (by decide) hL7) ?_
  refine rw_l (run_V (As := [.int (xs (7 * n7 + 1))]) (rest := [.long (if wth (xs (7 * n7 + 1)) 0 1 = true then (if (xs (7 * n7 + 1)) = 0 then ab else be) else (-2 : Int32).toInt64)]) hC.1 ckX9_part (kX9_part l g o ab be tN ra ta ti fa um ua hh rf (xs (7 * n7 + 1))) (gw_in m_1045 rfl) (fb_rw _ _ _) (va_recv hK.1 (kP_app.mp hP).1 (q0 := 0) rfl rfl) (fun U hU hW => ⟨by rw [hU]; exact (kP_app.mpr ⟨(kP_app.mp hP).1, (kP_app.mpr ⟨(kP_app.mp (kP_app.mp hP).2).1, kP_nil⟩)⟩), kK_warm hW hK, vD_sub (sbA _ (sbA _ (sb0 _))) hD⟩) ⟨rfl, rfl, Nat.le_of_ble_eq_true rfl, Nat.le_of_ble_eq_true rfl⟩ rfl hl.1 rfl (Nat.le_of_ble_eq_true rfl) dL_law_1283 ⟨hcl, hsl⟩) (adr_app rfl (adr_app aW_adr rfl)) (asc2 _ _ _) (ww' := mO g o ab be tN ra ta ti fa um ua hh ++ (aW g (o 1) 3 (if (xs (7 * n7 + 1)) = 0 then rf else if (xs (7 * n7 + 1)) = 1 then rf else upd rf 0 (rf 0 + 1)) ++ (aW g (o 2) 45 q ++ (aW g (o 3) 45 tr ++ (aW g (o 4) 45 ot ++ (aW g (o 5) 94 tl ++ (aW g (o 6) 150 tx ++ (aW g (o 7) 360 ud ++ (aW g (o 8) 72 gn ++ (zW g (o 9) 2 zk ++ (aW g (o 10) 90 kn ++ (aW g (o 11) 188 kt ++ (aW g (o 12) 720 ku ++ (aW g (o 13) 2 km ++ (aW g (o 14) 2 ka ++ (jW CW ++ [])))))))))))))))) (asc2 _ _ _) hP hD hS (fun H locs hP hD hS => ?_)
  have hP : kP g (mWl g o ab be tN ra ta ti fa um ua hh (if (xs (7 * n7 + 1)) = 0 then rf else if (xs (7 * n7 + 1)) = 1 then rf else upd rf 0 (rf 0 + 1)) q tr ot tl tx ud gn zk kn kt ku km ka ++ CW) _ := kP_eq mWl_eq hP
  have hD : va_D _ (mWl g o ab be tN ra ta ti fa um ua hh (if (xs (7 * n7 + 1)) = 0 then rf else if (xs (7 * n7 + 1)) = 1 then rf else upd rf 0 (rf 0 + 1)) q tr ot tl tx ud gn zk kn kt ku km ka ++ CW) := vD_eq mWl_eq hD
  subst hCW
  have hP := kP_com hP
  have hD := vD_com hD
  have hE : (if wth (xs (7 * n7 + 1)) 0 1 = true then (if (xs (7 * n7 + 1)) = 0 then ab else be) else (-2 : Int32).toInt64) = (if (xs (7 * n7 + 1)) = 0 then ab else if (xs (7 * n7 + 1)) = 1 then be else (-2 : Int32).toInt64) ∧ lwRel g ab be (if wth (xs (7 * n7 + 1)) 0 1 = true then (rf 0) else (rf 0) + 1) (rf 1) (rf 2) r N f N1 N2 N3 f1 f2 f3 tN tx rg fi J0 J1 ab be tN um ua (if (xs (7 * n7 + 1)) = 0 then rf else if (xs (7 * n7 + 1)) = 1 then rf else upd rf 0 (rf 0 + 1)) q ot tl tx ud zk kn kt ku km ka := by
    by_cases c8 : (xs (7 * n7 + 1)) = 0
    · skip
      have c7 : wth (xs (7 * n7 + 1)) 0 1 = true := by rw [c8]; decide
      refine ⟨?_, ?_⟩
      · simp only [if_pos c7, if_pos c8]
      · simp only [if_pos c7, if_pos c8]; exact ⟨hG, ⟨rfl, rfl, rfl, rfl, rfl⟩, ⟨rfl, hT150, rfl⟩, ⟨hwg, hwo⟩, hI0, hI1⟩
    · skip
      by_cases c6 : (xs (7 * n7 + 1)) = 1
      · skip
        have c7 : wth (xs (7 * n7 + 1)) 0 1 = true := by rw [c6]; decide
        refine ⟨?_, ?_⟩
        · simp only [if_pos c7, if_neg c8, if_pos c6]
        · simp only [if_pos c7, if_neg c8, if_pos c6]; exact ⟨hG, ⟨rfl, rfl, rfl, rfl, rfl⟩, ⟨rfl, hT150, rfl⟩, ⟨hwg, hwo⟩, hI0, hI1⟩
      · skip
        have c7 : ¬ wth (xs (7 * n7 + 1)) 0 1 = true := fun z => (w01 z).elim c8 c6
        refine ⟨?_, ?_⟩
        · simp only [if_neg c7, if_neg c8, if_neg c6]
        · simp only [if_neg c7, if_neg c8, if_neg c6]; exact ⟨hG, ⟨rfl, rfl, rfl, rfl, rfl⟩, ⟨rfl, hT150, rfl⟩, ⟨hwg, hwo⟩, hI0, hI1⟩
  refine W.lcmp hx hb dL_law_1286 ?_
  refine lv_if_eq (tgt := 1398) hx hb dL_law_1287 (by decide) (fun c9 => ?_) (fun c9 => ?_)
  · exact K _ _ _ ⟨_, _, _, _, _, _, _, _, _, _, _, _, _, _, _, _, _, _, _, _, _, _, _, _, _, _, _, _, _, _, _, _, _, _, _, _, _, _, _, _, _, _, _, _, _, _, _, _, _, _, _, _, _, _, _, _, _, _, _, _, _, _, _, hP, hD, hE.2⟩ hS hl
  · exact absurd ((lg_cmp_eq _ _).mpr hE.1) c9
set_option maxHeartbeats 4000000 in
set_option maxRecDepth 100000 in
theorem lc_35 (l : Launch) (g : gG) {pp : Program} {ee : Env} {ss : State} {mm : MethodId} {ar : Array Value} {bl : List Frame} {mt : Method} {cd : Code} {H : Heap} {locs : List Loc} {cells slots : Nat} {Q : State → Prop} {ls : Array Slot} (hC : CallFix pp mm cd cL_law 4 ss ar gw "ConkerBoutsLaw" ∧ True) (hK : kK g ss) (q9 : sQ) (hZ : kS q9 (fun q9 => ss.heap.size ≤ q9) ss ss.heap) {b L n7 : Nat} {xs : Nat → Int32} (hX : va_X b L xs ss ss.heap) (hbl : b < ss.heap.size) (h7 : 7 * n7 + 7 ≤ L) (hL7 : L < 2147483648) {x a ay ap b1 b2 b3 e t c u : Nat → Nat} {sx : Nat → Nat → Nat} {im : Nat} {o : Nat → Nat} (hI : lwI g x a ay ap b1 b2 b3 e t c u sx im o (fun q9 => ss.heap.size ≤ q9) H) (hS : va_S (fun q9 => ss.heap.size ≤ q9) ss.heap H locs) (hcl : cells ≤ room_1.cells) (hsl : slots ≤ room_1.slots) (hl : lv_has ls 4 [(0, .ref (b)), (1, .ref (x 0)), (2, .ref (o 0)), (3, .int (nI (7 * n7)))]) (K : ∀ (H : Heap) (locs : List Loc) (ls : Array Slot), lwI g x a ay ap b1 b2 b3 e t c u sx im o (fun q9 => ss.heap.size ≤ q9) H → va_S (fun q9 => ss.heap.size ≤ q9) ss.heap H locs → lv_has ls 4 [(0, .ref (b)), (1, .ref (x 0)), (2, .ref (o 0)), (3, .int (nI (7 * n7)))] → W pp l ee room_1 ss mm ar bl mt cd H locs cells slots Q (F0 mm 1398 ls [])) : W pp l ee room_1 ss mm ar bl mt cd H locs cells slots Q (F0 mm 1338 ls []) := by
  obtain ⟨hx, hb, hml, hown, hts⟩ := id hC.1
  have hbA : ¬ ss.heap.size ≤ b := by omega
  obtain ⟨ab, be, tb, tn, tf, r, N, f, N1, N2, N3, f1, f2, f3, tN, flt, tx, so, sta, beh, va, bs, bc, p1, p2, p3, p4, p5, rg, r0, r1, r2, r3, r4, r5, uf, fi, J0, J1, abm, bem, lm, ra, ta, ti, fa, um, ua, hh, rf, q, tr, ot, tl, txm, ud, gn, zk, kn, kt, ku, km, ka, hP, hD, hR⟩ := hI
  obtain ⟨hG, ⟨rfl, rfl, rfl, rfl, rfl⟩, ⟨rfl, hT150, rfl⟩, ⟨hwg, hwo⟩, hI0, hI1⟩ := hR
  have hwr := hG.1
  have hwq := hG.2.1
  have hLv := hG.2.2.1
  have hPR := hG.2.2.2.1
  have hTl := hG.2.2.2.2
  have hNu := hPR.1
  have hN8 := hPR.2.1
  have hua8 := hPR.2.2.1
  have hum8 : um ≤ 8 := by omega
  obtain ⟨ht0, ht26, ht63, hN15, hN26, hN36, -, -, -, hbf1, hbf2⟩ := id hTl
  have hP : kP g (cO g x (a 0) im (e 0) (t 0) (u 0) ab be (rf 0) (rf 1) (rf 2) ++ (gW g a (ay 0) (ap 0) (b1 0) (b2 0) (b3 0) ++ (yW g ay r ++ (pW g ap N f ++ (rW g b1 N1 5 f1 ++ (rW g b2 N2 6 f2 ++ (rW g b3 N3 6 f3 ++ (xW g e tN flt tx so sta beh va ++ (tW g t (c 0) (fun k9 => sx k9 0) bs bc p1 p2 p3 p4 p5 ++ (yW g c rg ++ (yW g (sx 0) r0 ++ (yW g (sx 1) r1 ++ (yW g (sx 2) r2 ++ (yW g (sx 3) r3 ++ (yW g (sx 4) r4 ++ (yW g (sx 5) r5 ++ (uW g u uf ++ (gQ g im fi ++ (jW J0 ++ (jW J1 ++ (jW (mWl g o ab be tN ra ta ti fa um ua hh rf q tr ot tl tx ud gn zk kn kt ku km ka) ++ []))))))))))))))))))))) _ := kP_eq cWl_eq.symm hP
  have hD : va_D _ (cO g x (a 0) im (e 0) (t 0) (u 0) ab be (rf 0) (rf 1) (rf 2) ++ (gW g a (ay 0) (ap 0) (b1 0) (b2 0) (b3 0) ++ (yW g ay r ++ (pW g ap N f ++ (rW g b1 N1 5 f1 ++ (rW g b2 N2 6 f2 ++ (rW g b3 N3 6 f3 ++ (xW g e tN flt tx so sta beh va ++ (tW g t (c 0) (fun k9 => sx k9 0) bs bc p1 p2 p3 p4 p5 ++ (yW g c rg ++ (yW g (sx 0) r0 ++ (yW g (sx 1) r1 ++ (yW g (sx 2) r2 ++ (yW g (sx 3) r3 ++ (yW g (sx 4) r4 ++ (yW g (sx 5) r5 ++ (uW g u uf ++ (gQ g im fi ++ (jW J0 ++ (jW J1 ++ (jW (mWl g o ab be tN ra ta ti fa um ua hh rf q tr ot tl tx ud gn zk kn kt ku km ka) ++ []))))))))))))))))))))) := vD_eq cWl_eq.symm hD
  refine lv_aload_n hx hb dL_law_1338 rfl (lv_at hl 1 rfl) ?_
  refine lv_aload_n hx hb dL_law_1339 rfl (lv_at hl 0 rfl) ?_
  refine lv_iload_n hx hb dL_law_1340 rfl (lv_at hl 3 rfl) ?_
  refine lv_iconst (v := 1) hx hb dL_law_1341 rfl ?_
  refine lv_iadd hx hb dL_law_1342 ?_
  refine top_i (x := nI (7 * n7) + 1) (y := nI (7 * n7 + 1)) (x7_add (k := 1)) ?_
  refine va_sld hx hb hX hbl hbA hS (x7_in h7 (by decide) hL7) dL_law_1343 ?_
  refine top_i (x := xs (nI (7 * n7 + 1)).toNatClampNeg) (y := xs (7 * n7 + 1)) (x7_cl h7 (by decide) hL7) ?_
  refine rw_i (run_V (As := [.int (xs (7 * n7 + 1))]) (rest := []) hC.1 ckX8_status (kX8_status l g x (a 0) im (e 0) (t 0) (u 0) ab be (rf 0) (rf 1) (rf 2) (xs (7 * n7 + 1))) (gw_in m_918 rfl) (fb_rw _ _ _) (va_recv hK.1 (kP_app.mp hP).1 (q0 := 0) rfl rfl) (fun U hU hW => ⟨by rw [hU]; exact (kP_app.mpr ⟨(kP_app.mp hP).1, kP_nil⟩), kK_warm hW hK, vD_sub (sbA _ (sb0 _)) hD⟩) ⟨rfl, rfl, Nat.le_of_ble_eq_true rfl, Nat.le_of_ble_eq_true rfl⟩ rfl hl.1 rfl (Nat.le_of_ble_eq_true rfl) dL_law_1344 ⟨hcl, hsl⟩) (adr_app cO_adr rfl) (asc1 _ _) (ww' := cO g x (a 0) im (e 0) (t 0) (u 0) ab be (if (xs (7 * n7 + 1)) = 0 then (rf 0) else if (xs (7 * n7 + 1)) = 1 then (rf 0) else if (xs (7 * n7 + 1)) = 2 then (rf 0) else (rf 0) + 1) (rf 1) (rf 2) ++ (gW g a (ay 0) (ap 0) (b1 0) (b2 0) (b3 0) ++ (yW g ay r ++ (pW g ap N f ++ (rW g b1 N1 5 f1 ++ (rW g b2 N2 6 f2 ++ (rW g b3 N3 6 f3 ++ (xW g e tN flt tx so sta beh va ++ (tW g t (c 0) (fun k9 => sx k9 0) bs bc p1 p2 p3 p4 p5 ++ (yW g c rg ++ (yW g (sx 0) r0 ++ (yW g (sx 1) r1 ++ (yW g (sx 2) r2 ++ (yW g (sx 3) r3 ++ (yW g (sx 4) r4 ++ (yW g (sx 5) r5 ++ (uW g u uf ++ (gQ g im fi ++ (jW J0 ++ (jW J1 ++ (jW (mWl g o ab be tN ra ta ti fa um ua hh rf q tr ot tl tx ud gn zk kn kt ku km ka) ++ []))))))))))))))))))))) (asc1 _ _) hP hD hS (fun H locs hP hD hS => ?_)
  have hP : kP g (cWl g x a ay ap b1 b2 b3 e t c u sx im ab be (if (xs (7 * n7 + 1)) = 0 then (rf 0) else if (xs (7 * n7 + 1)) = 1 then (rf 0) else if (xs (7 * n7 + 1)) = 2 then (rf 0) else (rf 0) + 1) (rf 1) (rf 2) r N f N1 N2 N3 f1 f2 f3 tN flt tx so sta beh va bs bc p1 p2 p3 p4 p5 rg r0 r1 r2 r3 r4 r5 uf fi J0 J1 ++ mWl g o ab be tN ra ta ti fa um ua hh rf q tr ot tl tx ud gn zk kn kt ku km ka) _ := kP_eq cWl_eq hP
  have hD : va_D _ (cWl g x a ay ap b1 b2 b3 e t c u sx im ab be (if (xs (7 * n7 + 1)) = 0 then (rf 0) else if (xs (7 * n7 + 1)) = 1 then (rf 0) else if (xs (7 * n7 + 1)) = 2 then (rf 0) else (rf 0) + 1) (rf 1) (rf 2) r N f N1 N2 N3 f1 f2 f3 tN flt tx so sta beh va bs bc p1 p2 p3 p4 p5 rg r0 r1 r2 r3 r4 r5 uf fi J0 J1 ++ mWl g o ab be tN ra ta ti fa um ua hh rf q tr ot tl tx ud gn zk kn kt ku km ka) := vD_eq cWl_eq hD
  generalize hCW : cWl g x a ay ap b1 b2 b3 e t c u sx im ab be (if (xs (7 * n7 + 1)) = 0 then (rf 0) else if (xs (7 * n7 + 1)) = 1 then (rf 0) else if (xs (7 * n7 + 1)) = 2 then (rf 0) else (rf 0) + 1) (rf 1) (rf 2) r N f N1 N2 N3 f1 f2 f3 tN flt tx so sta beh va bs bc p1 p2 p3 p4 p5 rg r0 r1 r2 r3 r4 r5 uf fi J0 J1 = CW at hP hD
  have hP : kP g (mO g o ab be tN ra ta ti fa um ua hh ++ (aW g (o 1) 3 rf ++ (aW g (o 2) 45 q ++ (aW g (o 3) 45 tr ++ (aW g (o 4) 45 ot ++ (aW g (o 5) 94 tl ++ (aW g (o 6) 150 tx ++ (aW g (o 7) 360 ud ++ (aW g (o 8) 72 gn ++ (zW g (o 9) 2 zk ++ (aW g (o 10) 90 kn ++ (aW g (o 11) 188 kt ++ (aW g (o 12) 720 ku ++ (aW g (o 13) 2 km ++ (aW g (o 14) 2 ka ++ (jW CW ++ [])))))))))))))))) _ := kP_eq mWl_eq.symm (kP_com hP)
  have hD : va_D _ (mO g o ab be tN ra ta ti fa um ua hh ++ (aW g (o 1) 3 rf ++ (aW g (o 2) 45 q ++ (aW g (o 3) 45 tr ++ (aW g (o 4) 45 ot ++ (aW g (o 5) 94 tl ++ (aW g (o 6) 150 tx ++ (aW g (o 7) 360 ud ++ (aW g (o 8) 72 gn ++ (zW g (o 9) 2 zk ++ (aW g (o 10) 90 kn ++ (aW g (o 11) 188 kt ++ (aW g (o 12) 720 ku ++ (aW g (o 13) 2 km ++ (aW g (o 14) 2 ka ++ (jW CW ++ [])))))))))))))))) := vD_eq mWl_eq.symm (vD_com hD)
  refine lv_aload_n hx hb dL_law_1347 rfl (lv_at hl 2 rfl) ?_
  refine lv_aload_n hx hb dL_law_1348 rfl (lv_at hl 0 rfl) ?_
  refine lv_iload_n hx hb dL_law_1349 rfl (lv_at hl 3 rfl) ?_
  refine lv_iconst (v := 1) hx hb dL_law_1350 rfl ?_
  refine lv_iadd hx hb dL_law_1351 ?_
  refine top_i (x := nI (7 * n7) + 1) (y := nI (7 * n7 + 1)) (x7_add (k := 1)) ?_
  refine va_sld hx hb hX hbl hbA hS (x7_in h7 (by decide) hL7) dL_law_1352 ?_
  refine top_i (x := xs (nI (7 * n7 + 1)).toNatClampNeg) (y := xs (7 * n7 + 1)) (x7_cl h7 (by decide) hL7) ?_
  refine rw_i (run_V (As := [.int (xs (7 * n7 + 1))]) (rest := [.int (if (xs (7 * n7 + 1)) = 0 then (rf 0) else if (xs (7 * n7 + 1)) = 1 then (rf 1) else if (xs (7 * n7 + 1)) = 2 then (rf 2) else -1)]) hC.1 ckX9_status (kX9_status l g o ab be tN ra ta ti fa um ua hh rf (xs (7 * n7 + 1))) (gw_in m_1034 rfl) (fb_rw _ _ _) (va_recv hK.1 (kP_app.mp hP).1 (q0 := 0) rfl rfl) (fun U hU hW => ⟨by rw [hU]; exact (kP_app.mpr ⟨(kP_app.mp hP).1, (kP_app.mpr ⟨(kP_app.mp (kP_app.mp hP).2).1, kP_nil⟩)⟩), kK_warm hW hK, vD_sub (sbA _ (sbA _ (sb0 _))) hD⟩) ⟨rfl, rfl, Nat.le_of_ble_eq_true rfl, Nat.le_of_ble_eq_true rfl⟩ rfl hl.1 rfl (Nat.le_of_ble_eq_true rfl) dL_law_1353 ⟨hcl, hsl⟩) (adr_app rfl (adr_app aW_adr rfl)) (asc2 _ _ _) (ww' := mO g o ab be tN ra ta ti fa um ua hh ++ (aW g (o 1) 3 (if wth (xs (7 * n7 + 1)) 0 2 = true then rf else upd rf 0 (rf 0 + 1)) ++ (aW g (o 2) 45 q ++ (aW g (o 3) 45 tr ++ (aW g (o 4) 45 ot ++ (aW g (o 5) 94 tl ++ (aW g (o 6) 150 tx ++ (aW g (o 7) 360 ud ++ (aW g (o 8) 72 gn ++ (zW g (o 9) 2 zk ++ (aW g (o 10) 90 kn ++ (aW g (o 11) 188 kt ++ (aW g (o 12) 720 ku ++ (aW g (o 13) 2 km ++ (aW g (o 14) 2 ka ++ (jW CW ++ [])))))))))))))))) (asc2 _ _ _) hP hD hS (fun H locs hP hD hS => ?_)
  have hP : kP g (mWl g o ab be tN ra ta ti fa um ua hh (if wth (xs (7 * n7 + 1)) 0 2 = true then rf else upd rf 0 (rf 0 + 1)) q tr ot tl tx ud gn zk kn kt ku km ka ++ CW) _ := kP_eq mWl_eq hP
  have hD : va_D _ (mWl g o ab be tN ra ta ti fa um ua hh (if wth (xs (7 * n7 + 1)) 0 2 = true then rf else upd rf 0 (rf 0 + 1)) q tr ot tl tx ud gn zk kn kt ku km ka ++ CW) := vD_eq mWl_eq hD
  subst hCW
  have hP := kP_com hP
  have hD := vD_com hD
  have hE : (if (xs (7 * n7 + 1)) = 0 then (rf 0) else if (xs (7 * n7 + 1)) = 1 then (rf 1) else if (xs (7 * n7 + 1)) = 2 then (rf 2) else -1) = (if wth (xs (7 * n7 + 1)) 0 2 = true then rf (cl (xs (7 * n7 + 1))) else -1) ∧ lwRel g ab be (if (xs (7 * n7 + 1)) = 0 then (rf 0) else if (xs (7 * n7 + 1)) = 1 then (rf 0) else if (xs (7 * n7 + 1)) = 2 then (rf 0) else (rf 0) + 1) (rf 1) (rf 2) r N f N1 N2 N3 f1 f2 f3 tN tx rg fi J0 J1 ab be tN um ua (if wth (xs (7 * n7 + 1)) 0 2 = true then rf else upd rf 0 (rf 0 + 1)) q ot tl tx ud zk kn kt ku km ka := by
    by_cases c8 : (xs (7 * n7 + 1)) = 0
    · skip
      have c7 : wth (xs (7 * n7 + 1)) 0 2 = true := by rw [c8]; decide
      refine ⟨?_, ?_⟩
      · simp only [if_pos c7, if_pos c8] <;> exact (by rw [c8]; rfl)
      · simp only [if_pos c7, if_pos c8]; exact ⟨hG, ⟨rfl, rfl, rfl, rfl, rfl⟩, ⟨rfl, hT150, rfl⟩, ⟨hwg, hwo⟩, hI0, hI1⟩
    · skip
      by_cases c6 : (xs (7 * n7 + 1)) = 1
      · skip
        have c7 : wth (xs (7 * n7 + 1)) 0 2 = true := by rw [c6]; decide
        refine ⟨?_, ?_⟩
        · simp only [if_pos c7, if_neg c8, if_pos c6] <;> exact (by rw [c6]; rfl)
        · simp only [if_pos c7, if_neg c8, if_pos c6]; exact ⟨hG, ⟨rfl, rfl, rfl, rfl, rfl⟩, ⟨rfl, hT150, rfl⟩, ⟨hwg, hwo⟩, hI0, hI1⟩
      · skip
        by_cases c5 : (xs (7 * n7 + 1)) = 2
        · skip
          have c7 : wth (xs (7 * n7 + 1)) 0 2 = true := by rw [c5]; decide
          refine ⟨?_, ?_⟩
          · simp only [if_pos c7, if_neg c8, if_neg c6, if_pos c5] <;> exact (by rw [c5]; rfl)
          · simp only [if_pos c7, if_neg c8, if_neg c6, if_pos c5]; exact ⟨hG, ⟨rfl, rfl, rfl, rfl, rfl⟩, ⟨rfl, hT150, rfl⟩, ⟨hwg, hwo⟩, hI0, hI1⟩
        · skip
          have c7 : ¬ wth (xs (7 * n7 + 1)) 0 2 = true := fun z => (w012 z).elim c8 (fun z => z.elim c6 c5)
          refine ⟨?_, ?_⟩
          · simp only [if_neg c7, if_neg c8, if_neg c6, if_neg c5]
          · simp only [if_neg c7, if_neg c8, if_neg c6, if_neg c5]; exact ⟨hG, ⟨rfl, rfl, rfl, rfl, rfl⟩, ⟨rfl, hT150, rfl⟩, ⟨hwg, hwo⟩, hI0, hI1⟩
  refine lv_icmp_eq (tgt := 1398) hx hb dL_law_1356 (by decide) (fun c9 => ?_) (fun c9 => ?_)
  · exact K _ _ _ ⟨_, _, _, _, _, _, _, _, _, _, _, _, _, _, _, _, _, _, _, _, _, _, _, _, _, _, _, _, _, _, _, _, _, _, _, _, _, _, _, _, _, _, _, _, _, _, _, _, _, _, _, _, _, _, _, _, _, _, _, _, _, _, _, hP, hD, hE.2⟩ hS hl
  · exact absurd hE.1 c9
set_option maxHeartbeats 4000000 in
set_option maxRecDepth 100000 in
theorem lc_37 (l : Launch) (g : gG) {pp : Program} {ee : Env} {ss : State} {mm : MethodId} {ar : Array Value} {bl : List Frame} {mt : Method} {cd : Code} {H : Heap} {locs : List Loc} {cells slots : Nat} {Q : State → Prop} {ls : Array Slot} (hC : CallFix pp mm cd cL_law 4 ss ar gw "ConkerBoutsLaw" ∧ True) (hK : kK g ss) (q9 : sQ) (hZ : kS q9 (fun q9 => ss.heap.size ≤ q9) ss ss.heap) {b L n7 : Nat} {xs : Nat → Int32} (hX : va_X b L xs ss ss.heap) (hbl : b < ss.heap.size) (h7 : 7 * n7 + 7 ≤ L) (hL7 : L < 2147483648) {x a ay ap b1 b2 b3 e t c u : Nat → Nat} {sx : Nat → Nat → Nat} {im : Nat} {o : Nat → Nat} (hI : lwI g x a ay ap b1 b2 b3 e t c u sx im o (fun q9 => ss.heap.size ≤ q9) H) (hS : va_S (fun q9 => ss.heap.size ≤ q9) ss.heap H locs) (hcl : cells ≤ room_1.cells) (hsl : slots ≤ room_1.slots) (hl : lv_has ls 4 [(0, .ref (b)), (1, .ref (x 0)), (2, .ref (o 0)), (3, .int (nI (7 * n7)))]) (K : ∀ (H : Heap) (locs : List Loc) (ls : Array Slot), lwI g x a ay ap b1 b2 b3 e t c u sx im o (fun q9 => ss.heap.size ≤ q9) H → va_S (fun q9 => ss.heap.size ≤ q9) ss.heap H locs → lv_has ls 4 [(0, .ref (b)), (1, .ref (x 0)), (2, .ref (o 0)), (3, .int (nI (7 * n7)))] → W pp l ee room_1 ss mm ar bl mt cd H locs cells slots Q (F0 mm 1398 ls [])) : W pp l ee room_1 ss mm ar bl mt cd H locs cells slots Q (F0 mm 1384 ls []) := by
  obtain ⟨hx, hb, hml, hown, hts⟩ := id hC.1
  have hbA : ¬ ss.heap.size ≤ b := by omega
  obtain ⟨ab, be, tb, tn, tf, r, N, f, N1, N2, N3, f1, f2, f3, tN, flt, tx, so, sta, beh, va, bs, bc, p1, p2, p3, p4, p5, rg, r0, r1, r2, r3, r4, r5, uf, fi, J0, J1, abm, bem, lm, ra, ta, ti, fa, um, ua, hh, rf, q, tr, ot, tl, txm, ud, gn, zk, kn, kt, ku, km, ka, hP, hD, hR⟩ := hI
  obtain ⟨hG, ⟨rfl, rfl, rfl, rfl, rfl⟩, ⟨rfl, hT150, rfl⟩, ⟨hwg, hwo⟩, hI0, hI1⟩ := hR
  have hwr := hG.1
  have hwq := hG.2.1
  have hLv := hG.2.2.1
  have hPR := hG.2.2.2.1
  have hTl := hG.2.2.2.2
  have hNu := hPR.1
  have hN8 := hPR.2.1
  have hua8 := hPR.2.2.1
  have hum8 : um ≤ 8 := by omega
  obtain ⟨ht0, ht26, ht63, hN15, hN26, hN36, -, -, -, hbf1, hbf2⟩ := id hTl
  have hP : kP g (cO g x (a 0) im (e 0) (t 0) (u 0) ab be (rf 0) (rf 1) (rf 2) ++ (gW g a (ay 0) (ap 0) (b1 0) (b2 0) (b3 0) ++ (yW g ay r ++ (pW g ap N f ++ (rW g b1 N1 5 f1 ++ (rW g b2 N2 6 f2 ++ (rW g b3 N3 6 f3 ++ (xW g e tN flt tx so sta beh va ++ (tW g t (c 0) (fun k9 => sx k9 0) bs bc p1 p2 p3 p4 p5 ++ (yW g c rg ++ (yW g (sx 0) r0 ++ (yW g (sx 1) r1 ++ (yW g (sx 2) r2 ++ (yW g (sx 3) r3 ++ (yW g (sx 4) r4 ++ (yW g (sx 5) r5 ++ (uW g u uf ++ (gQ g im fi ++ (jW J0 ++ (jW J1 ++ (jW (mWl g o ab be tN ra ta ti fa um ua hh rf q tr ot tl tx ud gn zk kn kt ku km ka) ++ []))))))))))))))))))))) _ := kP_eq cWl_eq.symm hP
  have hD : va_D _ (cO g x (a 0) im (e 0) (t 0) (u 0) ab be (rf 0) (rf 1) (rf 2) ++ (gW g a (ay 0) (ap 0) (b1 0) (b2 0) (b3 0) ++ (yW g ay r ++ (pW g ap N f ++ (rW g b1 N1 5 f1 ++ (rW g b2 N2 6 f2 ++ (rW g b3 N3 6 f3 ++ (xW g e tN flt tx so sta beh va ++ (tW g t (c 0) (fun k9 => sx k9 0) bs bc p1 p2 p3 p4 p5 ++ (yW g c rg ++ (yW g (sx 0) r0 ++ (yW g (sx 1) r1 ++ (yW g (sx 2) r2 ++ (yW g (sx 3) r3 ++ (yW g (sx 4) r4 ++ (yW g (sx 5) r5 ++ (uW g u uf ++ (gQ g im fi ++ (jW J0 ++ (jW J1 ++ (jW (mWl g o ab be tN ra ta ti fa um ua hh rf q tr ot tl tx ud gn zk kn kt ku km ka) ++ []))))))))))))))))))))) := vD_eq cWl_eq.symm hD
  refine lv_aload_n hx hb dL_law_1384 rfl (lv_at hl 1 rfl) ?_
  refine ro_l (run_V (As := []) (rest := []) hC.1 ckX8_digest (kX8_digest l g x im (t 0) (u 0) ab be (rf 0) (rf 1) (rf 2) a ay ap b1 b2 b3 r N f N1 N2 N3 5 6 6 f1 f2 f3 e tN flt tx so sta beh va (by first | assumption | omega) (by first | assumption | omega) (by first | assumption | omega) (by first | assumption | omega)) (gw_in m_936 rfl) (fb_ro _ _ _) (va_recv hK.1 (kP_app.mp hP).1 (q0 := 0) rfl rfl) (fun U hU hW => ⟨by rw [hU]; exact (kP_app.mpr ⟨(kP_app.mp hP).1, (kP_app.mpr ⟨(kP_app.mp (kP_app.mp hP).2).1, (kP_app.mpr ⟨(kP_app.mp (kP_app.mp (kP_app.mp hP).2).2).1, (kP_app.mpr ⟨(kP_app.mp (kP_app.mp (kP_app.mp (kP_app.mp hP).2).2).2).1, (kP_app.mpr ⟨(kP_app.mp (kP_app.mp (kP_app.mp (kP_app.mp (kP_app.mp hP).2).2).2).2).1, (kP_app.mpr ⟨(kP_app.mp (kP_app.mp (kP_app.mp (kP_app.mp (kP_app.mp (kP_app.mp hP).2).2).2).2).2).1, (kP_app.mpr ⟨(kP_app.mp (kP_app.mp (kP_app.mp (kP_app.mp (kP_app.mp (kP_app.mp (kP_app.mp hP).2).2).2).2).2).2).1, (kP_app.mpr ⟨(kP_app.mp (kP_app.mp (kP_app.mp (kP_app.mp (kP_app.mp (kP_app.mp (kP_app.mp (kP_app.mp hP).2).2).2).2).2).2).2).1, (kP_mem.mpr (fun _ h => absurd h List.not_mem_nil))⟩)⟩)⟩)⟩)⟩)⟩)⟩)⟩), kK_warm hW hK⟩) ⟨rfl, rfl, Nat.le_of_ble_eq_true rfl, Nat.le_of_ble_eq_true rfl⟩ rfl hl.1 rfl (Nat.le_of_ble_eq_true rfl) dL_law_1385 ⟨hcl, hsl⟩) ?_
  have hP : kP g (cWl g x a ay ap b1 b2 b3 e t c u sx im ab be (rf 0) (rf 1) (rf 2) r N f N1 N2 N3 f1 f2 f3 tN flt tx so sta beh va bs bc p1 p2 p3 p4 p5 rg r0 r1 r2 r3 r4 r5 uf fi J0 J1 ++ mWl g o ab be tN ra ta ti fa um ua hh rf q tr ot tl tx ud gn zk kn kt ku km ka) _ := kP_eq cWl_eq hP
  have hD : va_D _ (cWl g x a ay ap b1 b2 b3 e t c u sx im ab be (rf 0) (rf 1) (rf 2) r N f N1 N2 N3 f1 f2 f3 tN flt tx so sta beh va bs bc p1 p2 p3 p4 p5 rg r0 r1 r2 r3 r4 r5 uf fi J0 J1 ++ mWl g o ab be tN ra ta ti fa um ua hh rf q tr ot tl tx ud gn zk kn kt ku km ka) := vD_eq cWl_eq hD
  generalize hCW : cWl g x a ay ap b1 b2 b3 e t c u sx im ab be (rf 0) (rf 1) (rf 2) r N f N1 N2 N3 f1 f2 f3 tN flt tx so sta beh va bs bc p1 p2 p3 p4 p5 rg r0 r1 r2 r3 r4 r5 uf fi J0 J1 = CW at hP hD
  have hP : kP g (mO g o ab be tN ra ta ti fa um ua hh ++ (aW g (o 1) 3 rf ++ (aW g (o 2) 45 q ++ (aW g (o 3) 45 tr ++ (aW g (o 4) 45 ot ++ (aW g (o 5) 94 tl ++ (aW g (o 6) 150 tx ++ (aW g (o 7) 360 ud ++ (aW g (o 8) 72 gn ++ (zW g (o 9) 2 zk ++ (aW g (o 10) 90 kn ++ (aW g (o 11) 188 kt ++ (aW g (o 12) 720 ku ++ (aW g (o 13) 2 km ++ (aW g (o 14) 2 ka ++ (jW CW ++ [])))))))))))))))) _ := kP_eq mWl_eq.symm (kP_com hP)
  have hD : va_D _ (mO g o ab be tN ra ta ti fa um ua hh ++ (aW g (o 1) 3 rf ++ (aW g (o 2) 45 q ++ (aW g (o 3) 45 tr ++ (aW g (o 4) 45 ot ++ (aW g (o 5) 94 tl ++ (aW g (o 6) 150 tx ++ (aW g (o 7) 360 ud ++ (aW g (o 8) 72 gn ++ (zW g (o 9) 2 zk ++ (aW g (o 10) 90 kn ++ (aW g (o 11) 188 kt ++ (aW g (o 12) 720 ku ++ (aW g (o 13) 2 km ++ (aW g (o 14) 2 ka ++ (jW CW ++ [])))))))))))))))) := vD_eq mWl_eq.symm (vD_com hD)
  refine lv_aload_n hx hb dL_law_1388 rfl (lv_at hl 2 rfl) ?_
  have hP : kP g (mO g o ab be tN ra ta ti fa um ua hh ++ (aW g (o 2) 45 q ++ (aW g (o 5) 94 tl ++ (aW g (o 1) 3 rf ++ (aW g (o 3) 45 tr ++ (aW g (o 4) 45 ot ++ (aW g (o 6) 150 tx ++ (aW g (o 7) 360 ud ++ (aW g (o 8) 72 gn ++ (zW g (o 9) 2 zk ++ (aW g (o 10) 90 kn ++ (aW g (o 11) 188 kt ++ (aW g (o 12) 720 ku ++ (aW g (o 13) 2 km ++ (aW g (o 14) 2 ka ++ (jW CW ++ [])))))))))))))))) _ := kP_perm ((((pmA _ (pm_swap _ _ _)).trans (pmA _ (pmA _ (pmA _ (pmA _ (pm_swap _ _ _)))))).trans (pmA _ (pmA _ (pmA _ (pm_swap _ _ _))))).trans (pmA _ (pmA _ (pm_swap _ _ _)))) hP
  have hD : va_D _ (mO g o ab be tN ra ta ti fa um ua hh ++ (aW g (o 2) 45 q ++ (aW g (o 5) 94 tl ++ (aW g (o 1) 3 rf ++ (aW g (o 3) 45 tr ++ (aW g (o 4) 45 ot ++ (aW g (o 6) 150 tx ++ (aW g (o 7) 360 ud ++ (aW g (o 8) 72 gn ++ (zW g (o 9) 2 zk ++ (aW g (o 10) 90 kn ++ (aW g (o 11) 188 kt ++ (aW g (o 12) 720 ku ++ (aW g (o 13) 2 km ++ (aW g (o 14) 2 ka ++ (jW CW ++ [])))))))))))))))) := vD_perm ((((pmA _ (pm_swap _ _ _)).trans (pmA _ (pmA _ (pmA _ (pmA _ (pm_swap _ _ _)))))).trans (pmA _ (pmA _ (pmA _ (pm_swap _ _ _))))).trans (pmA _ (pmA _ (pm_swap _ _ _)))) hD
  refine rw_l (run_V (As := []) (rest := [.long (31 * (31 * (dgR f3 5 (dgR f2 6 (dgR f1 5 (dgN r (dgP r (dgK (fun w => cnC r N N1 N2 N3 tN (nI w)) 1823 11) (cl (r 1))) (cl (r 2))) N1) N2) N3) + ab) + be)]) hC.1 ckX9_digest (kX9_digest l g o ab be tN ra ta ti fa um ua hh q tl N1 N2 N3 (by first | assumption | omega) (by first | assumption | omega) (by first | assumption | omega) (by first | assumption | omega) (by first | assumption | omega) (by first | assumption | omega) (by first | assumption | omega)) (gw_in m_1386 rfl) (fb_rw _ _ _) (va_recv hK.1 (kP_app.mp hP).1 (q0 := 0) rfl rfl) (fun U hU hW => ⟨by rw [hU]; exact (kP_app.mpr ⟨(kP_app.mp hP).1, (kP_app.mpr ⟨(kP_app.mp (kP_app.mp hP).2).1, (kP_app.mpr ⟨(kP_app.mp (kP_app.mp (kP_app.mp hP).2).2).1, kP_nil⟩)⟩)⟩), kK_warm hW hK, vD_sub (sbA _ (sbA _ (sbA _ (sb0 _)))) hD⟩) ⟨rfl, rfl, Nat.le_of_ble_eq_true rfl, Nat.le_of_ble_eq_true rfl⟩ rfl hl.1 rfl (Nat.le_of_ble_eq_true rfl) dL_law_1389 ⟨hcl, hsl⟩) (adr_app mO_adr (adr_app rfl (adr_app rfl rfl))) (asc3 _ _ _ _) (ww' := mO g o ab be tN ra ta ti fa um ua (31 * (31 * h6M q tl um tN N1 N2 N3 + ab) + be) ++ (aW g (o 2) 45 q ++ (aW g (o 5) 94 tl ++ (aW g (o 1) 3 rf ++ (aW g (o 3) 45 tr ++ (aW g (o 4) 45 ot ++ (aW g (o 6) 150 tx ++ (aW g (o 7) 360 ud ++ (aW g (o 8) 72 gn ++ (zW g (o 9) 2 zk ++ (aW g (o 10) 90 kn ++ (aW g (o 11) 188 kt ++ (aW g (o 12) 720 ku ++ (aW g (o 13) 2 km ++ (aW g (o 14) 2 ka ++ (jW CW ++ [])))))))))))))))) (asc3 _ _ _ _) hP hD hS (fun H locs hP hD hS => ?_)
  have hP : kP g (mO g o ab be tN ra ta ti fa um ua (31 * (31 * h6M q tl um tN N1 N2 N3 + ab) + be) ++ (aW g (o 1) 3 rf ++ (aW g (o 2) 45 q ++ (aW g (o 3) 45 tr ++ (aW g (o 4) 45 ot ++ (aW g (o 5) 94 tl ++ (aW g (o 6) 150 tx ++ (aW g (o 7) 360 ud ++ (aW g (o 8) 72 gn ++ (zW g (o 9) 2 zk ++ (aW g (o 10) 90 kn ++ (aW g (o 11) 188 kt ++ (aW g (o 12) 720 ku ++ (aW g (o 13) 2 km ++ (aW g (o 14) 2 ka ++ (jW CW ++ [])))))))))))))))) _ := kP_perm ((((pmA _ (pmA _ (pm_swap _ _ _))).trans (pmA _ (pm_swap _ _ _))).trans (pmA _ (pmA _ (pmA _ (pm_swap _ _ _))))).trans (pmA _ (pmA _ (pmA _ (pmA _ (pm_swap _ _ _)))))) hP
  have hD : va_D _ (mO g o ab be tN ra ta ti fa um ua (31 * (31 * h6M q tl um tN N1 N2 N3 + ab) + be) ++ (aW g (o 1) 3 rf ++ (aW g (o 2) 45 q ++ (aW g (o 3) 45 tr ++ (aW g (o 4) 45 ot ++ (aW g (o 5) 94 tl ++ (aW g (o 6) 150 tx ++ (aW g (o 7) 360 ud ++ (aW g (o 8) 72 gn ++ (zW g (o 9) 2 zk ++ (aW g (o 10) 90 kn ++ (aW g (o 11) 188 kt ++ (aW g (o 12) 720 ku ++ (aW g (o 13) 2 km ++ (aW g (o 14) 2 ka ++ (jW CW ++ [])))))))))))))))) := vD_perm ((((pmA _ (pmA _ (pm_swap _ _ _))).trans (pmA _ (pm_swap _ _ _))).trans (pmA _ (pmA _ (pmA _ (pm_swap _ _ _))))).trans (pmA _ (pmA _ (pmA _ (pmA _ (pm_swap _ _ _)))))) hD
  have hP : kP g (mWl g o ab be tN ra ta ti fa um ua (31 * (31 * h6M q tl um tN N1 N2 N3 + ab) + be) rf q tr ot tl tx ud gn zk kn kt ku km ka ++ CW) _ := kP_eq mWl_eq hP
  have hD : va_D _ (mWl g o ab be tN ra ta ti fa um ua (31 * (31 * h6M q tl um tN N1 N2 N3 + ab) + be) rf q tr ot tl tx ud gn zk kn kt ku km ka ++ CW) := vD_eq mWl_eq hD
  subst hCW
  have hP := kP_com hP
  have hD := vD_com hD
  have hE : (31 * (31 * (dgR f3 5 (dgR f2 6 (dgR f1 5 (dgN r (dgP r (dgK (fun w => cnC r N N1 N2 N3 tN (nI w)) 1823 11) (cl (r 1))) (cl (r 2))) N1) N2) N3) + ab) + be) = (31 * (31 * h6M q tl um tN N1 N2 N3 + ab) + be) ∧ lwRel g ab be (rf 0) (rf 1) (rf 2) r N f N1 N2 N3 f1 f2 f3 tN tx rg fi J0 J1 ab be tN um ua rf q ot tl tx ud zk kn kt ku km ka := by
    exact ⟨dig_eq hLv hwr hNu rfl hTl, hG, ⟨rfl, rfl, rfl, rfl, rfl⟩, ⟨rfl, hT150, rfl⟩, ⟨hwg, hwo⟩, hI0, hI1⟩
  refine W.lcmp hx hb dL_law_1392 ?_
  refine lv_if_eq (tgt := 1398) hx hb dL_law_1393 (by decide) (fun c9 => ?_) (fun c9 => ?_)
  · exact K _ _ _ ⟨_, _, _, _, _, _, _, _, _, _, _, _, _, _, _, _, _, _, _, _, _, _, _, _, _, _, _, _, _, _, _, _, _, _, _, _, _, _, _, _, _, _, _, _, _, _, _, _, _, _, _, _, _, _, _, _, _, _, _, _, _, _, _, hP, hD, hE.2⟩ hS hl
  · exact absurd ((lg_cmp_eq _ _).mpr hE.1) c9
