/-! ===== the law: both worlds side by side ===== -/
def jW (J : va_W) : va_W := J
theorem jW_adr {J : va_W} : (jW J).map Prod.fst = (jW J).map Prod.fst := rfl
def cWl (g : gG) (x a ay ap b1 b2 b3 e t c u : Nat → Nat) (sx : Nat → Nat → Nat) (im : Nat) (ab be : Int64) (tb tn tf : Int32) (r : Nat → Int32) (N : Nat) (f : Nat → Int32) (N1 N2 N3 : Nat) (f1 f2 f3 : Nat → Int32) (tN : Nat) (flt : Int32) (tx : Nat → Int32) (so : Int32) (sta beh : Nat) (va bs bc : Int32) (p1 p2 p3 p4 p5 rg r0 r1 r2 r3 r4 r5 uf : Nat → Int32) (fi : Nat → Option Nat) (J0 J1 : va_W) : va_W :=
  cO g x (a 0) im (e 0) (t 0) (u 0) ab be tb tn tf ++ (gW g a (ay 0) (ap 0) (b1 0) (b2 0) (b3 0) ++ (yW g ay r ++ (pW g ap N f ++ (rW g b1 N1 5 f1 ++ (rW g b2 N2 6 f2 ++ (rW g b3 N3 6 f3 ++ (xW g e tN flt tx so sta beh va ++ (tW g t (c 0) (fun k => sx k 0) bs bc p1 p2 p3 p4 p5 ++ (yW g c rg ++ (yW g (sx 0) r0 ++ (yW g (sx 1) r1 ++ (yW g (sx 2) r2 ++ (yW g (sx 3) r3 ++ (yW g (sx 4) r4 ++ (yW g (sx 5) r5 ++ (uW g u uf ++ (gQ g im fi ++ (jW J0 ++ jW J1))))))))))))))))))
def mWl (g : gG) (o : Nat → Nat) (ab be : Int64) (lm ra ta : Nat) (ti fa : Int32) (um ua : Nat) (hh : Int64) (rf q tr ot tl tx ud gn zk kn kt ku km ka : Nat → Int32) : va_W :=
  mO g o ab be lm ra ta ti fa um ua hh ++ (aW g (o 1) 3 rf ++ (aW g (o 2) 45 q ++ (aW g (o 3) 45 tr ++ (aW g (o 4) 45 ot ++ (aW g (o 5) 94 tl ++ (aW g (o 6) 150 tx ++ (aW g (o 7) 360 ud ++ (aW g (o 8) 72 gn ++ (zW g (o 9) 2 zk ++ (aW g (o 10) 90 kn ++ (aW g (o 11) 188 kt ++ (aW g (o 12) 720 ku ++ (aW g (o 13) 2 km ++ aW g (o 14) 2 ka)))))))))))))
theorem cWl_eq {g : gG} {x a ay ap b1 b2 b3 e t c u : Nat → Nat} {sx : Nat → Nat → Nat} {im : Nat} {ab be : Int64} {tb tn tf : Int32} {r : Nat → Int32} {N : Nat} {f : Nat → Int32} {N1 N2 N3 : Nat} {f1 f2 f3 : Nat → Int32} {tN : Nat} {flt : Int32} {tx : Nat → Int32} {so : Int32} {sta beh : Nat} {va bs bc : Int32} {p1 p2 p3 p4 p5 rg r0 r1 r2 r3 r4 r5 uf : Nat → Int32} {fi : Nat → Option Nat} {J0 J1 R : va_W} :
    cWl g x a ay ap b1 b2 b3 e t c u sx im ab be tb tn tf r N f N1 N2 N3 f1 f2 f3 tN flt tx so sta beh va bs bc p1 p2 p3 p4 p5 rg r0 r1 r2 r3 r4 r5 uf fi J0 J1 ++ R = cO g x (a 0) im (e 0) (t 0) (u 0) ab be tb tn tf ++ (gW g a (ay 0) (ap 0) (b1 0) (b2 0) (b3 0) ++ (yW g ay r ++ (pW g ap N f ++ (rW g b1 N1 5 f1 ++ (rW g b2 N2 6 f2 ++ (rW g b3 N3 6 f3 ++ (xW g e tN flt tx so sta beh va ++ (tW g t (c 0) (fun k => sx k 0) bs bc p1 p2 p3 p4 p5 ++ (yW g c rg ++ (yW g (sx 0) r0 ++ (yW g (sx 1) r1 ++ (yW g (sx 2) r2 ++ (yW g (sx 3) r3 ++ (yW g (sx 4) r4 ++ (yW g (sx 5) r5 ++ (uW g u uf ++ (gQ g im fi ++ (jW J0 ++ (jW J1 ++ (jW R ++ [])))))))))))))))))))) := by
  simp only [cWl, jW, List.append_assoc, List.append_nil]
theorem mWl_eq {g : gG} {o : Nat → Nat} {ab be : Int64} {lm ra ta : Nat} {ti fa : Int32} {um ua : Nat} {hh : Int64} {rf q tr ot tl tx ud gn zk kn kt ku km ka : Nat → Int32} {R : va_W} :
    mWl g o ab be lm ra ta ti fa um ua hh rf q tr ot tl tx ud gn zk kn kt ku km ka ++ R = mO g o ab be lm ra ta ti fa um ua hh ++ (aW g (o 1) 3 rf ++ (aW g (o 2) 45 q ++ (aW g (o 3) 45 tr ++ (aW g (o 4) 45 ot ++ (aW g (o 5) 94 tl ++ (aW g (o 6) 150 tx ++ (aW g (o 7) 360 ud ++ (aW g (o 8) 72 gn ++ (zW g (o 9) 2 zk ++ (aW g (o 10) 90 kn ++ (aW g (o 11) 188 kt ++ (aW g (o 12) 720 ku ++ (aW g (o 13) 2 km ++ (aW g (o 14) 2 ka ++ (jW R ++ []))))))))))))))) := by
  simp only [mWl, jW, List.append_assoc, List.append_nil]
/-- an image: there is none, or there is a game that answers to the reference's -/
def IR (g : gG) (fi : Nat → Option Nat) (zk kn kt ku km ka : Nat → Int32) (j : Nat) (J : va_W) : Prop :=
  (fi j = none ∧ zk j = 0 ∧ J = []) ∨ ∃ (aq ayq apq b1q b2q b3q : Nat → Nat) (rq : Nat → Int32) (Nq : Nat) (fq : Nat → Int32) (N1q N2q N3q : Nat) (f1q f2q f3q : Nat → Int32) (KM KA : Nat), fi j = some (aq 0) ∧ ¬ zk j = 0 ∧ J = gW g aq (ayq 0) (apq 0) (b1q 0) (b2q 0) (b3q 0) ++ (yW g ayq rq ++ (pW g apq Nq fq ++ (rW g b1q N1q 5 f1q ++ (rW g b2q N2q 6 f2q ++ (rW g b3q N3q 6 f3q ++ []))))) ∧ km j = nI KM ∧ ka j = nI KA ∧ GR rq Nq fq N1q N2q N3q f1q f2q f3q (fun k => kn (45 * j + k)) KM KA (fun k => ku (360 * j + k)) (fun k => kt (94 * j + k))
def lwRel (g : gG) (ab be : Int64) (tb tn tf : Int32) (r : Nat → Int32) (N : Nat) (f : Nat → Int32) (N1 N2 N3 : Nat) (f1 f2 f3 : Nat → Int32) (tN : Nat) (tx rg : Nat → Int32) (fi : Nat → Option Nat) (J0 J1 : va_W) (abm bem : Int64) (lm um ua : Nat) (rf q ot tl txm ud zk kn kt ku km ka : Nat → Int32) : Prop :=
  GR r N f N1 N2 N3 f1 f2 f3 q um ua ud tl ∧ (ab = abm ∧ be = bem ∧ rf 0 = tb ∧ rf 1 = tn ∧ rf 2 = tf) ∧ (tN = lm ∧ tN ≤ 150 ∧ tx = txm) ∧ (Wf rg ∧ Wf ot) ∧ IR g fi zk kn kt ku km ka 0 J0 ∧ IR g fi zk kn kt ku km ka 1 J1
def lwI (g : gG) (x a ay ap b1 b2 b3 e t c u : Nat → Nat) (sx : Nat → Nat → Nat) (im : Nat) (o : Nat → Nat) (X : Nat → Prop) (H : Heap) : Prop :=
  ∃ (ab be : Int64) (tb tn tf : Int32) (r : Nat → Int32) (N : Nat) (f : Nat → Int32) (N1 N2 N3 : Nat) (f1 f2 f3 : Nat → Int32) (tN : Nat) (flt : Int32) (tx : Nat → Int32) (so : Int32) (sta beh : Nat) (va bs bc : Int32) (p1 p2 p3 p4 p5 rg r0 r1 r2 r3 r4 r5 uf : Nat → Int32) (fi : Nat → Option Nat) (J0 J1 : va_W) (abm bem : Int64) (lm ra ta : Nat) (ti fa : Int32) (um ua : Nat) (hh : Int64) (rf q tr ot tl txm ud gn zk kn kt ku km ka : Nat → Int32),
    kP g (cWl g x a ay ap b1 b2 b3 e t c u sx im ab be tb tn tf r N f N1 N2 N3 f1 f2 f3 tN flt tx so sta beh va bs bc p1 p2 p3 p4 p5 rg r0 r1 r2 r3 r4 r5 uf fi J0 J1 ++ mWl g o abm bem lm ra ta ti fa um ua hh rf q tr ot tl txm ud gn zk kn kt ku km ka) H ∧
    va_D X (cWl g x a ay ap b1 b2 b3 e t c u sx im ab be tb tn tf r N f N1 N2 N3 f1 f2 f3 tN flt tx so sta beh va bs bc p1 p2 p3 p4 p5 rg r0 r1 r2 r3 r4 r5 uf fi J0 J1 ++ mWl g o abm bem lm ra ta ti fa um ua hh rf q tr ot tl txm ud gn zk kn kt ku km ka) ∧
    lwRel g ab be tb tn tf r N f N1 N2 N3 f1 f2 f3 tN tx rg fi J0 J1 abm bem lm um ua rf q ot tl txm ud zk kn kt ku km ka
theorem rf0 {rf : Nat → Int32} {v : Int32} : upd rf 0 v 0 = v ∧ upd rf 0 v 1 = rf 1 ∧ upd rf 0 v 2 = rf 2 := ⟨rfl, rfl, rfl⟩
theorem rf1 {rf : Nat → Int32} {v : Int32} : upd rf 1 v 0 = rf 0 ∧ upd rf 1 v 1 = v ∧ upd rf 1 v 2 = rf 2 := ⟨rfl, rfl, rfl⟩
theorem rf2 {rf : Nat → Int32} {v : Int32} : upd rf 2 v 0 = rf 0 ∧ upd rf 2 v 1 = rf 1 ∧ upd rf 2 v 2 = v := ⟨rfl, rfl, rfl⟩
theorem x7_in {n k L : Nat} (h : 7 * n + 7 ≤ L) (hk : k < 7) (hL : L < 2147483648) : vp_in (nI (7 * n + k)) L := pk_in (7 * n + k) L (by omega)
theorem x7_add {n k : Nat} : nI (7 * n) + nI k = nI (7 * n + k) := nI_add _ _
theorem x7_cl {n k L : Nat} {xs : Nat → Int32} (h : 7 * n + 7 ≤ L) (hk : k < 7) (hL : L < 2147483648) : xs (nI (7 * n + k)).toNatClampNeg = xs (7 * n + k) := by rw [pk_cl (7 * n + k) rfl (by omega)]
theorem a1 {a b : Bool} (h : (a && b) = true) : a = true := ((Bool.and_eq_true _ _).mp h).1
theorem a2 {a b : Bool} (h : (a && b) = true) : b = true := ((Bool.and_eq_true _ _).mp h).2
theorem strk_eq {r q : Nat → Int32} {i j k : Int32} (h : Lv r q) (hw : Wf r) (hi : yNut r i = true) (hj : yNut r j = true) (hk : yNut r k = true) : yFact (stk r i j) k 4 = stk q i j (33 + cl k) :=
  (yFact_k (k := 4) (stk_nut.trans hk) (by decide)).trans ((h.stkL hw hi hj).at (stk_nut.trans hk)).2.2.2.2.1
theorem crack_eq {r q : Nat → Int32} {i j w : Int32} (h : Lv r q) (hw : Wf r) (hi : yNut r i = true) (hj : yNut r j = true) : (if yCan r i j = true then (if w = 0 then yFact (stk r i j) j 4 else yFact (stk r i j) i 4) else -1) = (if yCan q i j = true then (if w = 0 then stk q i j (33 + cl j) else stk q i j (33 + cl i)) else -1) := by
  rw [h.can, strk_eq h hw hi hj hj, strk_eq h hw hi hj hi]
theorem w01 {w : Int32} (h : wth w 0 1 = true) : w = 0 ∨ w = 1 := by
  rw [wth_ti, show (0 : Int32).toInt = 0 from rfl, show (1 : Int32).toInt = 1 from rfl] at h
  by_cases e : w.toInt = 0
  · exact Or.inl (Int32.toInt_inj.mp e)
  · exact Or.inr (Int32.toInt_inj.mp (by rw [show (1 : Int32).toInt = 1 from rfl]; omega))
theorem bd99 {t : Int32} (h : wth t 0 99 = true) : bd t 0 9999 := by
  have := wth_ti.mp h
  rw [show (0 : Int32).toInt = 0 from rfl, show (99 : Int32).toInt = 99 from rfl] at this
  exact ⟨this.1, by omega⟩
theorem bd19 {t : Int32} (h : wth t 1 9 = true) : bd t 0 9 := by
  have := wth_ti.mp h
  rw [show (1 : Int32).toInt = 1 from rfl, show (9 : Int32).toInt = 9 from rfl] at this
  exact ⟨by omega, this.2⟩
theorem n3_lt {r : Nat → Int32} (hw : Wf r) (h : ¬ r 1 = 3) : r 1 < 3 ∧ bd (r 1) 0 2 := by
  have := hw.n3
  have h1 := hw.2.1.1
  have : (r 1).toInt ≠ 3 := fun e => h (Int32.toInt_inj.mp e)
  exact ⟨by rw [Int32.lt_iff_toInt_lt, show (3 : Int32).toInt = 3 from rfl]; omega, h1, by omega⟩
theorem n6_lt {r : Nat → Int32} (hw : Wf r) (h : ¬ r 2 = 6) : r 2 < 6 ∧ bd (r 2) 0 5 := by
  have := hw.n6
  have h1 := hw.2.2.1.1
  have : (r 2).toInt ≠ 6 := fun e => h (Int32.toInt_inj.mp e)
  exact ⟨by rw [Int32.lt_iff_toInt_lt, show (6 : Int32).toInt = 6 from rfl]; omega, h1, by omega⟩
theorem stat_stk {r : Nat → Int32} {i j : Int32} : stat (stk r i j) r := fun _ h0 _ h3 => stk_9 h3 h0
theorem stat_0 {r : Nat → Int32} {v : Int32} : stat (upd r 0 v) r := fun _ h0 _ _ => upd_ne h0
theorem stat_9 {r : Nat → Int32} {v : Int32} {i : Nat} (hi : i < 6) : stat (upd r (9 + i) v) r := fun _ _ h9 _ => upd_ne (by omega)
theorem wait_bd {r : Nat → Int32} {n : Int32} (hw : Wf r) (h : wth n 1 60 = true) : bd (if r 0 + n < 9999 then r 0 + n else 9999) 0 9999 := by
  have h1 := wth_ti.mp h
  rw [show (1 : Int32).toInt = 1 from rfl, show (60 : Int32).toInt = 60 from rfl] at h1
  have h2 := hw.num
  have e := ti_add (a := r 0) (b := n) (by omega) (by omega)
  split
  · rename_i c
    rw [Int32.lt_iff_toInt_lt, show (9999 : Int32).toInt = 9999 from rfl] at c
    exact ⟨by omega, by omega⟩
  · exact ⟨by decide, by decide⟩
