/-! ===== what is made: new cells behind the old ones ===== -/
def rmA (d c s : Nat) : Room := { frames := d, cells := c, slots := s, locals := 64 * d }
/-- an object by itself -/
def cW (g : gG) (h ci : Nat) (fs : List Value) : va_W := [(h, .inr (ci, fs))]
theorem cW_adr {g : gG} {h ci : Nat} {fs fs' : List Value} : (cW g h ci fs).map Prod.fst = (cW g h ci fs').map Prod.fst := rfl
/-- rows of yards, of games -/
def yQ (g : gG) (h : Nat) (f : Nat → Option Nat) : va_W := [(h, .inl (g.2.2.2.2, 6, .inr (.inr (.inr (.inr f)))))]
theorem yQ_adr {g : gG} {h : Nat} {f f' : Nat → Option Nat} : (yQ g h f).map Prod.fst = (yQ g h f').map Prod.fst := rfl
def gQ (g : gG) (h : Nat) (f : Nat → Option Nat) : va_W := [(h, .inl (g.2.2.2.1, 2, .inr (.inr (.inr (.inr f)))))]
theorem gQ_adr {g : gG} {h : Nat} {f f' : Nat → Option Nat} : (gQ g h f).map Prod.fst = (gQ g h f').map Prod.fst := rfl
def nwPre (g : gG) (w0 : va_W) (sz : Nat) : State → Prop := fun U => U.heap.size = sz ∧ kP g w0 U.heap ∧ kK g U ∧ va_D (fun _ => True) w0
def nwPreO (g : gG) (w0 : va_W) (sz : Nat) (os : List String) : State → Prop := fun U => nwPre g w0 sz U ∧ ∀ o ∈ os, va_AO o U
abbrev nwQ {S : Type} (g : gG) (w0 : va_W) (sz : Nat) (post : S → Prop) (Wn : S → va_W) : Array Value → State → Outcome → State → Prop := va_Qv post (fun u t => kP g (Wn u) t.heap ∧ va_D (va_A w0 sz) (Wn u)) (va_A w0 sz)
theorem fb_nw (g : gG) (w0 : va_W) (sz : Nat) (av : List Value) : FrameBlind (va_Pc av (nwPre g w0 sz)) := fun _ _ _ _ q => ⟨q.1, q.2.1, q.2.2.1, kK_call q.2.2.2.1, q.2.2.2.2⟩
theorem fb_nwO (g : gG) (w0 : va_W) (sz : Nat) (os : List String) (av : List Value) : FrameBlind (va_Pc av (nwPreO g w0 sz os)) := fun _ U f mk q => ⟨q.1, ⟨q.2.1.1, q.2.1.2.1, kK_call q.2.1.2.2.1, q.2.1.2.2.2⟩, fun o ho => va_AO.moved (u := U) (U := U.calling f mk _) (Vm.Alike.refl U.vm) (q.2.2 o ho)⟩
theorem va_A_iff {ws : va_W} {sz q : Nat} : va_A ws sz q ↔ dm ws q ∨ sz ≤ q := by
  unfold va_A dm
  constructor
  · rintro (⟨k, e, h⟩ | h)
    · exact Or.inl (List.mem_map.mpr ⟨(q, e), List.mem_of_getElem? h, rfl⟩)
    · exact Or.inr h
  · rintro (h | h)
    · obtain ⟨x, hx, rfl⟩ := List.mem_map.mp h
      obtain ⟨k, hk⟩ := List.getElem?_of_mem hx
      exact Or.inl ⟨k, x.2, hk⟩
    · exact Or.inr h
def ckI (y : MethodName) (bytes : ByteArray) (maxL n : Nat) : Prop := Cond.code y bytes maxL none ∈ gw ∧ Cond.initialized y.cls ∈ gw ∧ Cond.instanceMethod y ∈ gw ∧ y.name = "<init>" ∧ y.cls ≠ "java/lang/invoke/MethodHandle" ∧ y.cls ≠ "java/lang/invoke/VarHandle" ∧ (parseMethodDescriptor y.desc).map (fun d => d.parameters.length) = some n
section KNEW
variable {p : Program} {l : Launch} {e : Env} {s : State} {m : MethodId} {args : Array Value} {below : List Frame} {meth : Method} {c : Code} {H : Heap} {locs : List Loc} {cells slots : Nat} {Q : State → Prop} {R : Room}
variable {y : MethodName} {bytes cc : ByteArray} {maxL nL n index pc : Nat} {Pre : State → Prop} {own : String} {b : Addr} {As rest st0 : List Value} {ls : Array Slot} {Qc : Array Value → State → Outcome → State → Prop} {free : Addr → Prop} {mc ms : Nat} {rm : Room}
theorem run_I (S : CallFix p m c cc nL s args gw own) (ck : ckI y bytes maxL n) (hM : Met l y (.code y bytes maxL none :: gw) rm (va_Pc (.ref b :: As) Pre) Qc mc ms free) (hl : Cond.methodLink own index y ∈ gw) (fb : FrameBlind (va_Pc (.ref b :: As) Pre)) (hp : ∀ U : State, U.heap = H → s.WarmedH U.vm → Pre U)
    (hrm : rm.cells = mc ∧ rm.slots = ms ∧ rm.frames + 1 ≤ R.frames ∧ 8 + (maxL + 11) + rm.locals ≤ R.locals) (hn : As.length = n) (hsz : ls.size = nL) (hst : st0 = As.reverse ++ .ref b :: rest) (hW : (rest.map fun v => v.category).sum ≤ 8) (hdg : decode cc pc = .ok (.invokespecial index, 3)) (hf : cells + mc ≤ R.cells ∧ slots + ms ≤ R.slots) :
    va_Run p l e R s m args below meth c H locs cells slots mc ms (F0 m pc ls st0) rest (Qc (Value.ref b :: As).toArray) free := by
  obtain ⟨k1, k2, k3, k0, k4, k5, k6⟩ := ck
  have ht := S.2.2.2.2
  have hG : GoodIn gw (.code y bytes maxL none :: gw) := gw_goodIn fun w hw => by
    rcases List.mem_cons.mp hw with rfl | h
    · exact k1
    · exact h
  exact va_runI S hM ⟨callB_of n ht hG rfl hrm.1 hrm.2.1 (ht _ k2) (ht _ hl) ⟨k4, k5, k6⟩ ⟨hrm.2.2.1, hrm.2.2.2⟩, k0, ht _ k3⟩ ⟨fb, fun U h1 h2 => ⟨rfl, hp U h1 h2⟩⟩ rfl hn hsz hst (lv_room hW) hdg hf
theorem run_IN {host : String} (S : CallFix p m c cc nL s args gw own) (ck : ckI y bytes maxL n) (hM : Met l y (.code y bytes maxL none :: gw) rm (va_Pc (.ref b :: As) Pre) Qc mc ms free) (hl : va_Nw (.methodLinkNest own index y host) s) (fb : FrameBlind (va_Pc (.ref b :: As) Pre)) (hp : ∀ U : State, U.heap = H → s.WarmedH U.vm → Pre U)
    (hrm : rm.cells = mc ∧ rm.slots = ms ∧ rm.frames + 1 ≤ R.frames ∧ 8 + (maxL + 11) + rm.locals ≤ R.locals) (hn : As.length = n) (hsz : ls.size = nL) (hst : st0 = As.reverse ++ .ref b :: rest) (hW : (rest.map fun v => v.category).sum ≤ 8) (hdg : decode cc pc = .ok (.invokespecial index, 3)) (hf : cells + mc ≤ R.cells ∧ slots + ms ≤ R.slots) :
    va_Run p l e R s m args below meth c H locs cells slots mc ms (F0 m pc ls st0) rest (Qc (Value.ref b :: As).toArray) free := by
  obtain ⟨k1, k2, k3, k0, k4, k5, k6⟩ := ck
  have ht := S.2.2.2.2
  have hG : GoodIn gw (.code y bytes maxL none :: gw) := gw_goodIn fun w hw => by
    rcases List.mem_cons.mp hw with rfl | h
    · exact k1
    · exact h
  exact va_runIN S hM ⟨va_cnB n ht hG rfl hrm.1 hrm.2.1 hl (ht _ k2) ⟨k4, k5, k6⟩ ⟨hrm.2.2.1, hrm.2.2.2⟩, k0, ht _ k3⟩ ⟨fb, fun U h1 h2 => ⟨rfl, hp U h1 h2⟩⟩ rfl hn hsz hst (lv_room hW) hdg hf
variable {g : gG} {X : Nat → Prop} {B C ww : va_W} {H0 : Heap} {sz : Nat} {a : Array Value}
/-- behind a constructor: what it made stands in front, the rest as it was -/
theorem nw_v {S : Type} {post : S → Prop} {Wn : S → va_W} (hr : va_Run p l e R s m args below meth c H locs cells slots mc ms (F0 m pc ls st0) rest (nwQ g B sz post Wn a) (va_A B sz)) (hsz : H.size = sz) (hP : kP g (B ++ C) H) (hD : va_D X (B ++ C)) (hS : va_S X H0 H locs) (hA : ∀ q, H0.size ≤ q → X q)
    (kk : ∀ (u : S) (H : Heap) (locs : List Loc), post u → kP g (Wn u ++ C) H → va_D X (Wn u ++ C) → va_S X H0 H locs → W p l e R s m args below meth c H locs (cells + mc) (slots + ms) Q (F0 m (pc + 3) ls rest)) : W p l e R s m args below meth c H locs cells slots Q (F0 m pc ls st0) := by
  subst hsz
  have hf : ∀ q, va_A B H.size q → X q := fun q hq => by
    rcases va_A_iff.mp hq with h | h
    · exact (vD_iff.mp hD).2 q (dm_app.mpr (Or.inl h))
    · exact hA q (Nat.le_trans hS.1 h)
  refine va_callv hr hS (fun q _ h => hf q h) hf (fun u t H1 locs ht hvm hp hB hz1 hk1 hS => ?_)
  obtain ⟨hB1, hB2⟩ := hB
  rw [ht] at hB1
  have hn := (vD_iff.mp hD).1
  rw [List.map_append, List.nodup_append] at hn
  have hlt : ∀ q ∈ C, q.1 < H.size := fun q hq => (kP_mem.mp (kP_app.mp hP).2 q hq).lt
  have hnb : ∀ q ∈ C, ¬ va_A B H.size q.1 := fun q hq h => by
    rcases va_A_iff.mp h with h | h
    · exact hn.2.2 q.1 h q.1 (List.mem_map.mpr ⟨q, hq, rfl⟩) rfl
    · have := hlt q hq; omega
  refine kk u H1 locs hp (kP_app.mpr ⟨hB1, kP_mem.mpr fun q hq => ?_⟩) ?_ hS
  · have h1 := kP_mem.mp (kP_app.mp hP).2 q hq
    exact h1.kept (hk1 q.1 h1.lt (hnb q hq))
  · rw [vD_iff]
    refine ⟨?_, fun q hq => ?_⟩
    · rw [List.map_append, List.nodup_append]
      refine ⟨(vD_iff.mp hB2).1, hn.2.1, fun x hx z hz hxz => ?_⟩
      obtain ⟨q, hq, rfl⟩ := List.mem_map.mp hz
      subst hxz
      exact hnb q hq ((vD_iff.mp hB2).2 _ hx)
    · rcases dm_app.mp hq with h | h
      · exact hf q ((vD_iff.mp hB2).2 q h)
      · exact (vD_iff.mp hD).2 q (dm_app.mpr (Or.inr h))
theorem vD_com {A D : va_W} (h : va_D X (A ++ D)) : va_D X (D ++ A) := vD_perm List.perm_append_comm h
theorem kP_com {A D : va_W} (h : kP g (A ++ D) H) : kP g (D ++ A) H := kP_perm List.perm_append_comm h
theorem ra_int {U : State} {c1 c2 : ClassId} (h1 : va_RA U c1 .int) (h2 : va_RA U c2 .int) : c1 = c2 := Option.some.inj (Eq.trans (Eq.symm h1) h2)
theorem ra_bool {U : State} {c1 c2 : ClassId} (h1 : va_RA U c1 .boolean) (h2 : va_RA U c2 .boolean) : c1 = c2 := Option.some.inj (Eq.trans (Eq.symm h1) h2)
theorem ra_obj {U : State} {c1 c2 : ClassId} {o : String} (h1 : va_RA U c1 (.object o)) (h2 : va_RA U c2 (.object o)) : c1 = c2 := by
  obtain ⟨k1, p1, -, -, -, e1⟩ := h1
  obtain ⟨k2, p2, -, -, -, e2⟩ := h2
  exact Option.some.inj (Eq.trans (Eq.symm e1) e2)
theorem knewa (S : CallFix p m c cc nL s args gw own) (hK : kK g s) (hP : kP g ww H) (hD : va_D X ww) (hS : va_S X H0 H locs) (hA : ∀ q, H0.size ≤ q → X q) {k : Int32} {N : Nat} (hk : ¬ k < 0) (hN : k.toNatClampNeg = N) (hby : N * componentBytes .int ≤ 536870912) (hc : cells + 1 ≤ R.cells) (hs : slots + N ≤ R.slots) (ha : (Cond.arrayClass .int) ∈ gw) (hdg : decode cc pc = .ok (.newarray .int, 2))
    (kk : ∀ (q : Nat) (H : Heap), kP g (aW g q N (fun _ => 0) ++ ww) H → va_D X (aW g q N (fun _ => 0) ++ ww) → va_S X H0 H locs → W p l e R s m args below meth c H locs (cells + 1) (slots + N) Q (F0 m (pc + 2) ls (.ref q :: rest))) : W p l e R s m args below meth c H locs cells slots Q (F0 m pc ls (.int k :: rest)) := by
  refine va_newa (atype := .int) (ty := .int) (a0 := (N, .inl (fun _ => 0))) S.1 S.2.1 (S.2.2.2.2 _ ha) rfl hK.1 hP hD hS hA (fun cA => rfl) hk hN hby hc hs hdg (fun q cA H1 hK1 hP1 hD1 hS1 => ?_)
  have e : cA = g.2.1 := ra_int (hK1.2 4 _ rfl).2 (hK.1.2 0 _ rfl).2
  subst e
  exact kk q H1 (kP_com hP1) (vD_com hD1) hS1
theorem knewz (S : CallFix p m c cc nL s args gw own) (hK : kK g s) (hP : kP g ww H) (hD : va_D X ww) (hS : va_S X H0 H locs) (hA : ∀ q, H0.size ≤ q → X q) {k : Int32} {N : Nat} (hk : ¬ k < 0) (hN : k.toNatClampNeg = N) (hby : N * componentBytes .boolean ≤ 536870912) (hc : cells + 1 ≤ R.cells) (hs : slots + N ≤ R.slots) (ha : (Cond.arrayClass .boolean) ∈ gw) (hdg : decode cc pc = .ok (.newarray .boolean, 2))
    (kk : ∀ (q : Nat) (H : Heap), kP g (zW g q N (fun _ => 0) ++ ww) H → va_D X (zW g q N (fun _ => 0) ++ ww) → va_S X H0 H locs → W p l e R s m args below meth c H locs (cells + 1) (slots + N) Q (F0 m (pc + 2) ls (.ref q :: rest))) : W p l e R s m args below meth c H locs cells slots Q (F0 m pc ls (.int k :: rest)) := by
  refine va_newa (atype := .boolean) (ty := .boolean) (a0 := (N, .inl (fun _ => 0))) S.1 S.2.1 (S.2.2.2.2 _ ha) rfl hK.1 hP hD hS hA (fun cA => rfl) hk hN hby hc hs hdg (fun q cA H1 hK1 hP1 hD1 hS1 => ?_)
  have e : cA = g.2.2.1 := ra_bool (hK1.2 4 _ rfl).2 (hK.1.2 1 _ rfl).2
  subst e
  exact kk q H1 (kP_com hP1) (vD_com hD1) hS1
theorem knewY (S : CallFix p m c cc nL s args gw own) (hK : kK g s) (hO : va_AO "ConkerBouts$Yard" s) (hP : kP g ww H) (hD : va_D X ww) (hS : va_S X H0 H locs) (hA : ∀ q, H0.size ≤ q → X q) (hl : Cond.classLink own index "ConkerBouts$Yard" ∈ gw) (hc : cells + 1 ≤ R.cells) (hs : slots + 6 ≤ R.slots) (hdg : decode cc pc = .ok (.anewarray index, 3))
    (kk : ∀ (q : Nat) (H : Heap), kP g (yQ g q (fun _ => none) ++ ww) H → va_D X (yQ g q (fun _ => none) ++ ww) → va_S X H0 H locs → W p l e R s m args below meth c H locs (cells + 1) (slots + 6) Q (F0 m (pc + 3) ls (.ref q :: rest))) : W p l e R s m args below meth c H locs cells slots Q (F0 m pc ls (.int 6 :: rest)) := by
  refine va_newq (N' := 6) S.1 S.2.1 S.2.2.2.1 (S.2.2.2.2 _ hl) hO hK.1 hP hD hS hA (by decide) (by decide) (by decide) hc hs hdg (fun q cA H1 hK1 hP1 hD1 hS1 => ?_)
  have e : cA = g.2.2.2.2 := ra_obj (hK1.2 4 _ rfl).2 (hK.1.2 3 _ rfl).2
  subst e
  exact kk q H1 (kP_com hP1) (vD_com hD1) hS1
theorem knewG (S : CallFix p m c cc nL s args gw own) (hK : kK g s) (hO : va_AO "ConkerBouts$Game" s) (hP : kP g ww H) (hD : va_D X ww) (hS : va_S X H0 H locs) (hA : ∀ q, H0.size ≤ q → X q) (hl : Cond.classLink own index "ConkerBouts$Game" ∈ gw) (hc : cells + 1 ≤ R.cells) (hs : slots + 2 ≤ R.slots) (hdg : decode cc pc = .ok (.anewarray index, 3))
    (kk : ∀ (q : Nat) (H : Heap), kP g (gQ g q (fun _ => none) ++ ww) H → va_D X (gQ g q (fun _ => none) ++ ww) → va_S X H0 H locs → W p l e R s m args below meth c H locs (cells + 1) (slots + 2) Q (F0 m (pc + 3) ls (.ref q :: rest))) : W p l e R s m args below meth c H locs cells slots Q (F0 m pc ls (.int 2 :: rest)) := by
  refine va_newq (N' := 2) S.1 S.2.1 S.2.2.2.1 (S.2.2.2.2 _ hl) hO hK.1 hP hD hS hA (by decide) (by decide) (by decide) hc hs hdg (fun q cA H1 hK1 hP1 hD1 hS1 => ?_)
  have e : cA = g.2.2.2.1 := ra_obj (hK1.2 4 _ rfl).2 (hK.1.2 2 _ rfl).2
  subst e
  exact kk q H1 (kP_com hP1) (vD_com hD1) hS1
theorem knew (S : CallFix p m c cc nL s args gw own) (hK : kK g s) {Cn : String} {T : u_T} {N ci : Nat} (hin : ∀ w ∈ u_ws Cn T N, w ∈ gw) (ty : Nat → FieldType) (hty : ∀ k, k < N → parseFieldDescriptor (T k).2.2.1 = some (ty k)) (hcl : Cond.classLink own index Cn ∈ gw) (hinst : Cond.instantiable Cn N ∈ gw) (hini : Cond.initialized Cn ∈ gw)
    (hP : kP g ww H) (hD : va_D X ww) (hS : va_S X H0 H locs) (hA : ∀ q, H0.size ≤ q → X q) (hc : vwCl[ci]? = some (Cn, T, N)) {fs : List Value} (hfs : ∀ j, j < N → defaultValue (ty j) = vp_V fs j) (hcells : cells + 1 ≤ R.cells) (hslots : slots + N ≤ R.slots) (hdg : decode cc pc = .ok (.new index, 3))
    (kk : ∀ (q : Nat) (H : Heap), kP g (cW g q ci fs ++ ww) H → va_D X (cW g q ci fs ++ ww) → va_S X H0 H locs → W p l e R s m args below meth c H locs (cells + 1) (slots + N) Q (F0 m (pc + 3) ls (.ref q :: rest))) : W p l e R s m args below meth c H locs cells slots Q (F0 m pc ls rest) :=
  va_new S.1 S.2.1 S.2.2.2.2 hin ty hty S.2.2.2.1 (S.2.2.2.2 _ hcl) (S.2.2.2.2 _ hinst) (S.2.2.2.2 _ hini) hK.1 hP hD hS hA hc hfs hcells hslots hdg (fun q H1 hP1 hD1 hS1 => kk q H1 (kP_com hP1) (vD_com hD1) hS1)
theorem kputF (S : CallFix p m c cc nL s args gw own) (hnm0 : meth.name = "<init>") (hK : kK g s) {h ci : Nat} {fs fs' : List Value} (hP : kP g (cW g h ci fs ++ C) H) (hD : va_D X (cW g h ci fs ++ C)) (hS : va_S X H0 H locs) {Cn : String} {T : u_T} {N : Nat} (hc : vwCl[ci]? = some (Cn, T, N)) (hin : ∀ w ∈ u_ws Cn T N, w ∈ gw) (ty0 : Nat → FieldType) (hty : ∀ k, k < N → parseFieldDescriptor (T k).2.2.1 = some (ty0 k)) (hnm : ∀ a, a < N → ∀ b, b < N → a ≠ b → (T a).2.1 ≠ (T b).2.1) (k : Nat) (hk : k < N) (hl : Cond.fieldLink own index (T k).1 (T k).2.1 (T k).2.2.1 ∈ gw) (hfin : (T k).2.2.2 = true) (hdecl : (T k).1 = own) {ty : FieldType} {v : Value} (hd : parseFieldDescriptor (T k).2.2.1 = some ty) (hn : narrow ty v = v) (hfit : fits ty v = true) (hlen : k < fs.length) (hset : fs.set k v = fs') (hdg : decode cc pc = .ok (.putfield index, 3))
    (kk : ∀ (H : Heap) (locs : List Loc), kP g (cW g h ci fs' ++ C) H → va_D X (cW g h ci fs' ++ C) → va_S X H0 H locs → W p l e R s m args below meth c H locs cells slots Q (F0 m (pc + 3) ls rest)) : W p l e R s m args below meth c H locs cells slots Q (F0 m pc ls (v :: .ref h :: rest)) := by
  subst hset
  exact va_putF S.1 S.2.1 S.2.2.2.2 hin ty0 hty hnm S.2.2.2.1 hK.1 hP hD hS 0 rfl hc k hk (S.2.2.2.2 _ hl) (fun _ z => z) hfin hnm0 hdecl hd hn hfit hlen hdg (fun H1 locs1 hP1 hD1 hS1 => kk H1 locs1 hP1 hD1 hS1)
theorem kputN (S : CallFix p m c cc nL s args gw own) (hK : kK g s) {h ci : Nat} {fs fs' : List Value} (hP : kP g (cW g h ci fs ++ C) H) (hD : va_D X (cW g h ci fs ++ C)) (hS : va_S X H0 H locs) {Cn : String} {T : u_T} {N : Nat} (hc : vwCl[ci]? = some (Cn, T, N)) (hin : ∀ w ∈ u_ws Cn T N, w ∈ gw) (ty0 : Nat → FieldType) (hty : ∀ k, k < N → parseFieldDescriptor (T k).2.2.1 = some (ty0 k)) (hnm : ∀ a, a < N → ∀ b, b < N → a ≠ b → (T a).2.1 ≠ (T b).2.1) (k : Nat) (hk : k < N) (hl : Cond.fieldLink own index (T k).1 (T k).2.1 (T k).2.2.1 ∈ gw) (hfin : (T k).2.2.2 = false) {ty : FieldType} {v : Value} (hd : parseFieldDescriptor (T k).2.2.1 = some ty) (hn : narrow ty v = v) (hfit : fits ty v = true) (hlen : k < fs.length) (hset : fs.set k v = fs') (hdg : decode cc pc = .ok (.putfield index, 3))
    (kk : ∀ (H : Heap) (locs : List Loc), kP g (cW g h ci fs' ++ C) H → va_D X (cW g h ci fs' ++ C) → va_S X H0 H locs → W p l e R s m args below meth c H locs cells slots Q (F0 m (pc + 3) ls rest)) : W p l e R s m args below meth c H locs cells slots Q (F0 m pc ls (v :: .ref h :: rest)) := by
  subst hset
  exact va_put S.1 S.2.1 S.2.2.2.2 hin ty0 hty hnm S.2.2.2.1 hK.1 hP hD hS 0 rfl hc k hk (S.2.2.2.2 _ hl) (fun _ z => z) hfin hd hn hfit hlen hdg (fun H1 locs1 hP1 hD1 hS1 => kk H1 locs1 hP1 hD1 hS1)
theorem ret_nw {S : Type} {post : S → Prop} {Wn : S → va_W} (u : S) (hx : p.tables.exec = Jvm.exec) (hb : c.code = cc) (hr : meth.sig.returnType = none) (hlk : meth.locks = false) (hc : cells ≤ mc) (hs : slots ≤ ms) (hmc : mc ≤ R.cells) (hms : ms ≤ R.slots) (hp : post u) (hP : kP g (Wn u) H) (hD : va_D (va_A B sz) (Wn u)) (hS : va_S (va_A B sz) s.heap H locs) (hdg : decode cc pc = .ok (.return_, 1)) : W p l e R s m args below meth c H locs cells slots (MQ below (nwQ g B sz post Wn) args s mc ms (va_A B sz)) (F0 m pc ls []) := by
  exact W.widen hc hs (W.vret hx hb hr (fun t ht _ => ⟨⟨u, rfl, hp, by show kP g (Wn u) t.heap ∧ _; rw [ht]; exact ⟨hP, hD⟩⟩, hS.F ht⟩) hS.2.2 hdg hlk)
theorem kastY (S : CallFix p m c cc nL s args gw own) (hK : kK g s) {q : Nat} {f : Nat → Option Nat} {ad : Nat → Nat} {r : Nat → Int32} (hP : kP g (yQ g q f ++ (yW g ad r ++ C)) H) (hD : va_D X (yQ g q f ++ (yW g ad r ++ C))) (hS : va_S X H0 H locs) {i : Int32} (hin : vp_in i 6) (hdg : decode cc pc = .ok (.aastore, 1))
    (kk : ∀ (H : Heap) (locs : List Loc), kP g (yQ g q (va_up f (cl i) (some (ad 0))) ++ (yW g ad r ++ C)) H → va_D X (yQ g q (va_up f (cl i) (some (ad 0))) ++ (yW g ad r ++ C)) → va_S X H0 H locs → W p l e R s m args below meth c H locs cells slots Q (F0 m (pc + 1) ls rest)) : W p l e R s m args below meth c H locs cells slots Q (F0 m pc ls (.ref (ad 0) :: .int i :: .ref q :: rest)) :=
  va_astq S.1 S.2.1 hK.1 hP hD hS 0 3 1 6 rfl rfl rfl rfl hin hdg (fun H1 locs1 hP1 hD1 hS1 => kk H1 locs1 hP1 hD1 hS1)
theorem kastG (S : CallFix p m c cc nL s args gw own) (hK : kK g s) {q : Nat} {f : Nat → Option Nat} {ad : Nat → Nat} {z1 z2 z3 z4 z5 : Nat} (hP : kP g (gQ g q f ++ (gW g ad z1 z2 z3 z4 z5 ++ C)) H) (hD : va_D X (gQ g q f ++ (gW g ad z1 z2 z3 z4 z5 ++ C))) (hS : va_S X H0 H locs) {i : Int32} (hin : vp_in i 2) (hdg : decode cc pc = .ok (.aastore, 1))
    (kk : ∀ (H : Heap) (locs : List Loc), kP g (gQ g q (va_up f (cl i) (some (ad 0))) ++ (gW g ad z1 z2 z3 z4 z5 ++ C)) H → va_D X (gQ g q (va_up f (cl i) (some (ad 0))) ++ (gW g ad z1 z2 z3 z4 z5 ++ C)) → va_S X H0 H locs → W p l e R s m args below meth c H locs cells slots Q (F0 m (pc + 1) ls rest)) : W p l e R s m args below meth c H locs cells slots Q (F0 m pc ls (.ref (ad 0) :: .int i :: .ref q :: rest)) :=
  va_astq S.1 S.2.1 hK.1 hP hD hS 0 2 1 0 rfl rfl rfl rfl hin hdg (fun H1 locs1 hP1 hD1 hS1 => kk H1 locs1 hP1 hD1 hS1)
end KNEW
theorem arrq_congr {cI : ClassId} {n : Nat} {f h : Nat → Option Nat} (e : ∀ j, j < n → f j = h j) : vp_cell cI (n, .inr (.inr (.inr (.inr f)))) = vp_cell cI (n, .inr (.inr (.inr (.inr h)))) := by
  rw [vp_cell_q, vp_cell_q]
  simp only [arrV]
  congr 1
  congr 1
  funext j
  rw [e j.val j.isLt]
theorem yQ_arr {g : gG} {q : Nat} {f h : Nat → Option Nat} (e : ∀ j, j < 6 → f j = h j) : ∀ H, kP g (yQ g q f) H → kP g (yQ g q h) H := by
  intro H h1
  simp only [yQ, kP_cons] at h1 ⊢
  refine ⟨?_, h1.2⟩
  show H[q]? = some (vp_cell _ (6, _))
  rw [← arrq_congr e]
  exact h1.1
