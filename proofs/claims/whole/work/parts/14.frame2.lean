/-! ===== contracts that leave a scratch: what it holds then is somebody's ===== -/
abbrev rxQi {S : Type} (g : gG) (ws : va_W) (ws' : S → va_W) (x : Int32) : Array Value → State → Outcome → State → Prop := va_Qi (fun r (_ : S) => r = x) (fun u t => kP g (ws' u) t.heap) (dm ws)
abbrev rxQl {S : Type} (g : gG) (ws : va_W) (ws' : S → va_W) (x : Int64) : Array Value → State → Outcome → State → Prop := va_Ql (fun r (_ : S) => r = x) (fun u t => kP g (ws' u) t.heap) (dm ws)
abbrev rxQv {S : Type} (g : gG) (ws : va_W) (ws' : S → va_W) : Array Value → State → Outcome → State → Prop := va_Qv (fun (_ : S) => True) (fun u t => kP g (ws' u) t.heap) (dm ws)
section KEX
variable {p : Program} {l : Launch} {e : Env} {s : State} {m : MethodId} {args : Array Value} {below : List Frame} {meth : Method} {c : Code} {H : Heap} {locs : List Loc} {cells slots : Nat} {Q : State → Prop} {R : Room}
variable {cc : ByteArray} {pc : Nat} {rest st0 : List Value} {ls : Array Slot} {g : gG} {X : Nat → Prop} {B C ww : va_W} {H0 : Heap} {S : Type} {B' ww' : S → va_W}
theorem rx_i {x : Int32} {a : Array Value} (hr : va_Run p l e R s m args below meth c H locs cells slots 0 0 (F0 m pc ls st0) rest (rxQi g B B' x a) (dm B)) (ha : ∀ u, (B' u).map Prod.fst = B.map Prod.fst) (hW : ww = B ++ C) (hW' : ∀ u, ww' u = B' u ++ C) (hP : kP g ww H) (hD : va_D X ww) (hS : va_S X H0 H locs)
    (kk : ∀ (u : S) (H : Heap) (locs : List Loc), kP g (ww' u) H → va_D X (ww' u) → va_S X H0 H locs → W p l e R s m args below meth c H locs cells slots Q (F0 m (pc + 3) ls (.int x :: rest))) : W p l e R s m args below meth c H locs cells slots Q (F0 m pc ls st0) := by
  subst hW
  have hX : ∀ q, dm B q → X q := fun q hq => (vD_iff.mp hD).2 q (dm_app.mpr (Or.inl hq))
  refine va_calli hr hS (fun q _ h => hX q h) hX (fun r u t H1 locs ht hvm hw hB hz1 hk1 hS => ?_)
  rw [hw]
  rw [ht] at hB
  obtain ⟨h1, h2⟩ := fr_front hP hD hB (ha u) hk1
  exact kk u H1 locs (by rw [hW' u]; exact h1) (by rw [hW' u]; exact h2) hS
theorem rx_l {x : Int64} {a : Array Value} (hr : va_Run p l e R s m args below meth c H locs cells slots 0 0 (F0 m pc ls st0) rest (rxQl g B B' x a) (dm B)) (ha : ∀ u, (B' u).map Prod.fst = B.map Prod.fst) (hW : ww = B ++ C) (hW' : ∀ u, ww' u = B' u ++ C) (hP : kP g ww H) (hD : va_D X ww) (hS : va_S X H0 H locs)
    (kk : ∀ (u : S) (H : Heap) (locs : List Loc), kP g (ww' u) H → va_D X (ww' u) → va_S X H0 H locs → W p l e R s m args below meth c H locs cells slots Q (F0 m (pc + 3) ls (.long x :: rest))) : W p l e R s m args below meth c H locs cells slots Q (F0 m pc ls st0) := by
  subst hW
  have hX : ∀ q, dm B q → X q := fun q hq => (vD_iff.mp hD).2 q (dm_app.mpr (Or.inl hq))
  refine va_calll hr hS (fun q _ h => hX q h) hX (fun r u t H1 locs ht hvm hw hB hz1 hk1 hS => ?_)
  rw [hw]
  rw [ht] at hB
  obtain ⟨h1, h2⟩ := fr_front hP hD hB (ha u) hk1
  exact kk u H1 locs (by rw [hW' u]; exact h1) (by rw [hW' u]; exact h2) hS
theorem rx_v {a : Array Value} (hr : va_Run p l e R s m args below meth c H locs cells slots 0 0 (F0 m pc ls st0) rest (rxQv g B B' a) (dm B)) (ha : ∀ u, (B' u).map Prod.fst = B.map Prod.fst) (hW : ww = B ++ C) (hW' : ∀ u, ww' u = B' u ++ C) (hP : kP g ww H) (hD : va_D X ww) (hS : va_S X H0 H locs)
    (kk : ∀ (u : S) (H : Heap) (locs : List Loc), kP g (ww' u) H → va_D X (ww' u) → va_S X H0 H locs → W p l e R s m args below meth c H locs cells slots Q (F0 m (pc + 3) ls rest)) : W p l e R s m args below meth c H locs cells slots Q (F0 m pc ls st0) := by
  subst hW
  have hX : ∀ q, dm B q → X q := fun q hq => (vD_iff.mp hD).2 q (dm_app.mpr (Or.inl hq))
  refine va_callv hr hS (fun q _ h => hX q h) hX (fun u t H1 locs ht hvm hw hB hz1 hk1 hS => ?_)
  rw [ht] at hB
  obtain ⟨h1, h2⟩ := fr_front hP hD hB (ha u) hk1
  exact kk u H1 locs (by rw [hW' u]; exact h1) (by rw [hW' u]; exact h2) hS
theorem ret_rxi {x v : Int32} (u : S) (hx : p.tables.exec = Jvm.exec) (hb : c.code = cc) (hr : meth.sig.returnType = some .int) (hlk : meth.locks = false) (hv : v = x) (hB : kP g (B' u) H) (hS : va_S (dm B) s.heap H locs) (hdg : decode cc pc = .ok (.ireturn, 1)) : W p l e R s m args below meth c H locs 0 0 (MQ below (rxQi g B B' x) args s 0 0 (dm B)) (F0 m pc ls [.int v]) :=
  W.iret hx hb hr (fun t ht _ => ⟨⟨v, u, rfl, hv, by show kP g (B' u) t.heap; rw [ht]; exact hB⟩, hS.F ht⟩) hS.2.2 hdg hlk
theorem ret_rxz {x v : Int32} {z : Bool} (u : S) (hx : p.tables.exec = Jvm.exec) (hb : c.code = cc) (hr : meth.sig.returnType = some .boolean) (hlk : meth.locks = false) (hz : x = b2i z) (hv : v = x) (hB : kP g (B' u) H) (hS : va_S (dm B) s.heap H locs) (hdg : decode cc pc = .ok (.ireturn, 1)) : W p l e R s m args below meth c H locs 0 0 (MQ below (rxQi g B B' x) args s 0 0 (dm B)) (F0 m pc ls [.int v]) := by
  subst hv
  subst hz
  exact W.zret hx hb hr (b2i_nar z) (fun t ht _ => ⟨⟨_, u, rfl, rfl, by show kP g (B' u) t.heap; rw [ht]; exact hB⟩, hS.F ht⟩) hS.2.2 hdg hlk
theorem ret_rxl {x v : Int64} (u : S) (hx : p.tables.exec = Jvm.exec) (hb : c.code = cc) (hr : meth.sig.returnType = some .long) (hlk : meth.locks = false) (hv : v = x) (hB : kP g (B' u) H) (hS : va_S (dm B) s.heap H locs) (hdg : decode cc pc = .ok (.lreturn, 1)) : W p l e R s m args below meth c H locs 0 0 (MQ below (rxQl g B B' x) args s 0 0 (dm B)) (F0 m pc ls [.long v]) :=
  W.lret hx hb hr (fun t ht _ => ⟨⟨v, u, rfl, hv, by show kP g (B' u) t.heap; rw [ht]; exact hB⟩, hS.F ht⟩) hS.2.2 hdg hlk
theorem ret_rxv (u : S) (hx : p.tables.exec = Jvm.exec) (hb : c.code = cc) (hr : meth.sig.returnType = none) (hlk : meth.locks = false) (hB : kP g (B' u) H) (hS : va_S (dm B) s.heap H locs) (hdg : decode cc pc = .ok (.return_, 1)) : W p l e R s m args below meth c H locs 0 0 (MQ below (rxQv g B B') args s 0 0 (dm B)) (F0 m pc ls []) :=
  W.vret hx hb hr (fun t ht _ => ⟨⟨u, rfl, trivial, by show kP g (B' u) t.heap; rw [ht]; exact hB⟩, hS.F ht⟩) hS.2.2 hdg hlk
end KEX
/-- the object that tries things, and its rows; gr: its ground; sg: its stages -/
def tW (g : gG) (t : Nat → Nat) (gr : Nat) (sg : Nat → Nat) (bs bc : Int32) (p1 p2 p3 p4 p5 : Nat → Int32) : va_W := [(t 0, .inr (5, [.ref gr, .int bs, .int bc, .ref (t 1), .ref (t 2), .ref (t 3), .ref (t 4), .ref (t 5), .ref (t 6)])),
  (t 1, .inl (g.2.2.2.2, 6, .inr (.inr (.inr (.inr (fun k => some (sg k))))))), (t 2, .inl (g.2.1, 6, .inl p1)), (t 3, .inl (g.2.1, 6, .inl p2)), (t 4, .inl (g.2.1, 36, .inl p3)), (t 5, .inl (g.2.1, 36, .inl p4)), (t 6, .inl (g.2.1, 36, .inl p5))]
theorem tW_adr {g : gG} {t : Nat → Nat} {gr : Nat} {sg : Nat → Nat} {bs bc bs' bc' : Int32} {p1 p2 p3 p4 p5 q1 q2 q3 q4 q5 : Nat → Int32} : (tW g t gr sg bs bc p1 p2 p3 p4 p5).map Prod.fst = (tW g t gr sg bs' bc' q1 q2 q3 q4 q5).map Prod.fst := rfl
theorem kP_eq {g : gG} {A B : va_W} {H : Heap} (h : B = A) (hP : kP g A H) : kP g B H := by rw [h]; exact hP
theorem vD_eq {X : Nat → Prop} {A B : va_W} (h : B = A) (hP : va_D X A) : va_D X B := by rw [h]; exact hP
