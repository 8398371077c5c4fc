/-! ===== the frame of all contracts: globals, words, rooms, worlds as blocks ===== -/
def gw : List Cond := lw_tbl.filter goodWord
theorem gw_good : ∀ w ∈ gw, (w.onTables && w.keeps) = true ∨ ∃ ty, w = .arrayClass ty := fun _ h => good_of_word (List.mem_filter.mp h).2
theorem gw_in {w : Cond} (h : w ∈ lw_tbl) (hg : goodWord w = true) : w ∈ gw := List.mem_filter.mpr ⟨h, hg⟩
theorem gw_goodIn {ws : List Cond} (h : ∀ w ∈ ws, w ∈ gw) : GoodIn gw ws := fun w hw => ⟨h w hw, gw_good w (h w hw)⟩
/-- globals: class numbers and slots; array classes of int, boolean, Game, Yard -/
abbrev gG : Type := va_G × ClassId × ClassId × ClassId × ClassId
def gT (g : gG) : List (ClassId × FieldType) := [(g.2.1, .int), (g.2.2.1, .boolean), (g.2.2.2.1, .object "ConkerBouts$Game"), (g.2.2.2.2, .object "ConkerBouts$Yard")]
def nwF : List (String × Nat × String × String × String × String) := [("ConkerBouts$Past", 33, "ConkerBouts$Yard", "owner", "[I", "ConkerBouts"), ("ConkerBouts$Past", 37, "ConkerBouts$Yard", "cracks", "[I", "ConkerBouts"), ("ConkerBouts$Past", 40, "ConkerBouts$Yard", "score", "[I", "ConkerBouts")]
abbrev kP (g : gG) (ws : va_W) (H : Heap) : Prop := va_P g.1 vwCl ws H
/-- the words that are no good words: links between nest mates -/
def kN (U : State) : Prop := (∀ a i b n d h, Cond.fieldLinkNest a i b n d h ∈ lw_tbl → va_Nw (.fieldLinkNest a i b n d h) U) ∧ (∀ a i x h, Cond.methodLinkNest a i x h ∈ lw_tbl → va_Nw (.methodLinkNest a i x h) U)
def kK (g : gG) (U : State) : Prop := va_K g.1 vwCl (gT g) U ∧ kN U
theorem kN_warm {s U : State} (hW : s.WarmedH U.vm) (h : kN s) : kN U := ⟨fun a i b n d x hm => va_Nw.warmF hW (h.1 a i b n d x hm), fun a i x y hm => va_Nw.warmM hW (h.2 a i x y hm)⟩
theorem kN_same {s U : State} (hv : s.vm = U.vm) (h : kN s) : kN U := ⟨fun a i b n d x hm => va_Nw.same rfl hv (h.1 a i b n d x hm), fun a i x y hm => va_Nw.same rfl hv (h.2 a i x y hm)⟩
theorem kK_warm {g : gG} {s U : State} (hW : s.WarmedH U.vm) (h : kK g s) : kK g U := ⟨va_K.moved hW.alike h.1, kN_warm hW h.2⟩
theorem kK_call {g : gG} {U : State} {f : JFrame} {mk : MethodId} {a : Array Value} (h : kK g U) : kK g (U.calling f mk a) := ⟨va_K.moved (u := U) (U := U.calling f mk a) (Vm.Alike.refl U.vm) h.1, kN_same (s := U) (U := U.calling f mk a) rfl h.2⟩
def rmN (d : Nat) : Room := { frames := d, cells := 0, slots := 0, locals := 64 * d }
/-- the addresses of a world -/
def dm (ws : va_W) : Nat → Prop := fun q => q ∈ ws.map Prod.fst
theorem dm_app {A B : va_W} {q : Nat} : dm (A ++ B) q ↔ dm A q ∨ dm B q := by unfold dm; rw [List.map_append, List.mem_append]
theorem dm_get {ws : va_W} {k : Nat} {q : Nat × va_E} (h : ws[k]? = some q) : dm ws q.1 := List.mem_map.mpr ⟨q, List.mem_of_getElem? h, rfl⟩
theorem dm_adr {A B : va_W} (h : A.map Prod.fst = B.map Prod.fst) {q : Nat} : dm A q ↔ dm B q := by unfold dm; rw [h]
theorem vD_iff {X : Nat → Prop} {ws : va_W} : va_D X ws ↔ (ws.map Prod.fst).Nodup ∧ ∀ q, dm ws q → X q := by
  constructor
  · intro h
    refine ⟨?_, fun q hq => ?_⟩
    · rw [List.nodup_iff_pairwise_ne, List.pairwise_iff_getElem]
      intro i j hi hj hij he
      rw [List.length_map] at hi hj
      rw [List.getElem_map, List.getElem_map] at he
      have := h.1 i j ws[i] ws[j] (List.getElem?_eq_getElem hi) (List.getElem?_eq_getElem hj) he
      omega
    · obtain ⟨e, he, rfl⟩ := List.mem_map.mp hq
      obtain ⟨k, hk⟩ := List.getElem?_of_mem he
      exact h.2 k e hk
  · rintro ⟨h1, h2⟩
    refine ⟨fun i j p q hi hj he => ?_, fun k q hk => h2 q.1 (dm_get hk)⟩
    obtain ⟨li, rfl⟩ := List.getElem?_eq_some_iff.mp hi
    obtain ⟨lj, rfl⟩ := List.getElem?_eq_some_iff.mp hj
    have li' : i < (ws.map Prod.fst).length := by rw [List.length_map]; exact li
    have lj' : j < (ws.map Prod.fst).length := by rw [List.length_map]; exact lj
    have he' : (ws.map Prod.fst)[i] = (ws.map Prod.fst)[j] := by rw [List.getElem_map, List.getElem_map]; exact he
    rw [List.nodup_iff_pairwise_ne, List.pairwise_iff_getElem] at h1
    rcases Nat.lt_trichotomy i j with z | z | z
    · exact absurd he' (h1 i j li' lj' z)
    · exact z
    · exact absurd he'.symm (h1 j i lj' li' z)
theorem vD_adr {X : Nat → Prop} {A B : va_W} (h : A.map Prod.fst = B.map Prod.fst) (hD : va_D X A) : va_D X B := by
  rw [vD_iff] at hD ⊢
  rw [← h]
  exact ⟨hD.1, fun q hq => hD.2 q ((dm_adr h).mpr hq)⟩
theorem vD_self {X : Nat → Prop} {A : va_W} (hD : va_D X A) : va_D (dm A) A := by
  rw [vD_iff] at hD ⊢
  exact ⟨hD.1, fun _ h => h⟩
theorem vD_left {X : Nat → Prop} {A B : va_W} (hD : va_D X (A ++ B)) : va_D (fun _ => True) A := by
  rw [vD_iff, List.map_append] at hD
  rw [vD_iff]
  exact ⟨(List.nodup_append.mp hD.1).1, fun _ _ => trivial⟩
theorem vD_perm {X : Nat → Prop} {A B : va_W} (h : A.Perm B) (hD : va_D X A) : va_D X B := by
  rw [vD_iff] at hD ⊢
  exact ⟨(h.map Prod.fst).nodup_iff.mp hD.1, fun q hq => hD.2 q ((h.map Prod.fst).mem_iff.mpr hq)⟩
theorem kP_mem {g : gG} {A : va_W} {H : Heap} : kP g A H ↔ ∀ q ∈ A, va_at g.1 vwCl q H := by
  constructor
  · intro h q hq
    obtain ⟨k, hk⟩ := List.getElem?_of_mem hq
    exact h k q hk
  · intro h k q hk
    exact h q (List.mem_of_getElem? hk)
theorem kP_perm {g : gG} {A B : va_W} {H : Heap} (h : A.Perm B) (hP : kP g A H) : kP g B H := kP_mem.mpr fun q hq => kP_mem.mp hP q (h.mem_iff.mpr hq)
theorem kP_app {g : gG} {A B : va_W} {H : Heap} : kP g (A ++ B) H ↔ kP g A H ∧ kP g B H := by
  simp only [kP_mem, List.mem_append, or_imp, forall_and]
theorem pm_swap (A B C : va_W) : (A ++ (B ++ C)).Perm (B ++ (A ++ C)) := by
  rw [← List.append_assoc, ← List.append_assoc]; exact List.perm_append_comm.append_right C
/-- behind a call or a store: the block in front is new, the rest is as it was -/
theorem fr_front {g : gG} {X : Nat → Prop} {B B' C : va_W} {H H1 : Heap} (hP : kP g (B ++ C) H) (hD : va_D X (B ++ C)) (hB : kP g B' H1) (ha : B'.map Prod.fst = B.map Prod.fst) (hk : ∀ q : Nat, q < H.size → ¬ dm B q → H1[q]? = H[q]?) : kP g (B' ++ C) H1 ∧ va_D X (B' ++ C) := by
  refine ⟨kP_app.mpr ⟨hB, kP_mem.mpr fun q hq => ?_⟩, vD_adr (by rw [List.map_append, List.map_append, ha]) hD⟩
  have h1 := kP_mem.mp (kP_app.mp hP).2 q hq
  refine h1.kept (hk q.1 h1.lt fun hb => ?_)
  have hn := (vD_iff.mp hD).1
  rw [List.map_append, List.nodup_append] at hn
  exact hn.2.2 q.1 hb q.1 (List.mem_map.mpr ⟨q, hq, rfl⟩) rfl
theorem asc1 (A C : va_W) : A ++ C = (A ++ []) ++ C := by rw [List.append_nil]
theorem asc2 (A B C : va_W) : A ++ (B ++ C) = (A ++ (B ++ [])) ++ C := by simp only [List.append_assoc, List.append_nil]
theorem asc3 (A B D C : va_W) : A ++ (B ++ (D ++ C)) = (A ++ (B ++ (D ++ []))) ++ C := by simp only [List.append_assoc, List.append_nil]
theorem asc4 (A B D E C : va_W) : A ++ (B ++ (D ++ (E ++ C))) = (A ++ (B ++ (D ++ (E ++ [])))) ++ C := by simp only [List.append_assoc, List.append_nil]
theorem asc5 (A B D E F C : va_W) : A ++ (B ++ (D ++ (E ++ (F ++ C)))) = (A ++ (B ++ (D ++ (E ++ (F ++ []))))) ++ C := by simp only [List.append_assoc, List.append_nil]
theorem vD_sub {X : Nat → Prop} {A B : va_W} (h : A.Sublist B) (hD : va_D X B) : va_D (fun _ => True) A := by
  rw [vD_iff] at hD ⊢
  exact ⟨hD.1.sublist (h.map Prod.fst), fun _ _ => trivial⟩
theorem kP_nil {g : gG} {H : Heap} : kP g [] H := fun k q h => by simp at h
theorem sb0 (C : va_W) : List.Sublist [] C := List.nil_sublist C
theorem sbA {A B : va_W} (X : va_W) (h : A.Sublist B) : (X ++ A).Sublist (X ++ B) := List.Sublist.append_left h X
theorem pmA {A B : va_W} (X : va_W) (h : A.Perm B) : (X ++ A).Perm (X ++ B) := List.Perm.append_left X h
def roPre (g : gG) (ws : va_W) : State → Prop := fun U => kP g ws U.heap ∧ kK g U
def rwPre (g : gG) (ws : va_W) : State → Prop := fun U => kP g ws U.heap ∧ kK g U ∧ va_D (fun _ => True) ws
theorem fb_ro (g : gG) (ws : va_W) (av : List Value) : FrameBlind (va_Pc av (roPre g ws)) := fun _ _ _ _ q => ⟨q.1, q.2.1, kK_call q.2.2⟩
theorem fb_rw (g : gG) (ws : va_W) (av : List Value) : FrameBlind (va_Pc av (rwPre g ws)) := fun _ _ _ _ q => ⟨q.1, q.2.1, kK_call q.2.2.1, q.2.2.2⟩
theorem fb_nil (av : List Value) : FrameBlind (va_Pc av (fun _ => True)) := fun _ _ _ _ q => q
/-- what stands fast in a method's body -/
abbrev cX (p : Program) (s : State) (m : MethodId) (args : Array Value) (meth : Method) (c : Code) (cc : ByteArray) (nL : Nat) (ret : Option FieldType) (y : MethodName) : Prop :=
  CallFix p m c cc nL s args gw y.cls ∧ meth.sig.returnType = ret ∧ meth.locks = false ∧ meth.name = y.name
theorem met_start {l : Launch} {y : MethodName} {cc : ByteArray} {nL : Nat} {ret : Option FieldType} {av : List Value} {Pre : State → Prop} {Q : Array Value → State → Outcome → State → Prop} {mc ms : Nat} {free : Addr → Prop} {rm : Room} (hy : plainName y.cls = true) (hn : (lg_sl av).length ≤ nL)
    (body : ∀ p e s m below meth c, cX p s m av.toArray meth c cc nL ret y → Pre s → ∀ ls, lv_has ls nL (lv_args 0 av) → W p l e rm s m av.toArray below meth c s.heap [] 0 0 (MQ below Q av.toArray s mc ms free) (F0 m 0 ls [])) :
    Met l y (.code y cc nL ret :: gw) rm (va_Pc av Pre) Q mc ms free := by
  refine Met.ofW (cc := cc) (maxL := nL) (ret := ret) hy rfl ?_
  intro p e s m args below meth c s₁ B hml hv
  obtain ⟨rfl, hpre⟩ := hv
  have hts := atoms_spec (ws := .code y cc nL ret :: gw) B.pre
  rw [lg_entry_eq]
  exact body p e s m below meth c ⟨⟨B.exec, B.bytes, hml, findClass_of_methodNamed B.named, fun w hw => hts w (List.mem_cons_of_mem _ hw)⟩, B.returns, B.notSynchronized, (name_of_methodNamed B.named B.method).1⟩ hpre _ (lv_entry av hn)
def b2i (b : Bool) : Int32 := if b then 1 else 0
theorem b2i_t {b : Bool} (h : b = true) : b2i b = 1 := by rw [h]; rfl
theorem b2i_f {b : Bool} (h : b = false) : b2i b = 0 := by rw [h]; rfl
theorem b2i_0 {b : Bool} (h : b2i b = 0) : b = false := by cases b; rfl; exact absurd h (by decide)
theorem b2i_1 {b : Bool} (h : ¬ b2i b = 0) : b = true := by cases b; exact absurd rfl h; rfl
theorem b2i_nar (b : Bool) : narrow .boolean (.int (b2i b)) = .int (b2i b) := by cases b <;> rfl
/-- what a callee must be: static, virtual -/
def ckS (y : MethodName) (bytes : ByteArray) (maxL : Nat) (ret : Option FieldType) (n : Nat) : Prop := Cond.code y bytes maxL ret ∈ gw ∧ Cond.initialized y.cls ∈ gw ∧ Cond.static y ∈ gw ∧ y.cls ≠ "java/lang/invoke/MethodHandle" ∧ y.cls ≠ "java/lang/invoke/VarHandle" ∧ (parseMethodDescriptor y.desc).map (fun d => d.parameters.length) = some n
def ckV (y : MethodName) (bytes : ByteArray) (maxL : Nat) (ret : Option FieldType) (n : Nat) : Prop := Cond.code y bytes maxL ret ∈ gw ∧ Cond.initialized y.cls ∈ gw ∧ (Cond.instanceMethod y ∈ gw ∧ Cond.selects y.cls y y ∈ gw) ∧ y.cls ≠ "java/lang/invoke/MethodHandle" ∧ y.cls ≠ "java/lang/invoke/VarHandle" ∧ (parseMethodDescriptor y.desc).map (fun d => d.parameters.length) = some n
section KCALL
variable {p : Program} {l : Launch} {e : Env} {s : State} {m : MethodId} {args : Array Value} {below : List Frame} {meth : Method} {c : Code} {H : Heap} {locs : List Loc} {cells slots : Nat} {Q : State → Prop} {R : Room}
variable {y : MethodName} {bytes cc : ByteArray} {maxL nL n index d pc : Nat} {ret : Option FieldType} {Pre : State → Prop} {own : String} {b : Addr} {As rest st0 : List Value} {ls : Array Slot} {Qc : Array Value → State → Outcome → State → Prop} {free : Addr → Prop} {mc ms : Nat} {rm : Room}
theorem run_S (S : CallFix p m c cc nL s args gw own) (ck : ckS y bytes maxL ret n) (hM : Met l y (.code y bytes maxL ret :: gw) rm (va_Pc As Pre) Qc mc ms free) (hl : Cond.methodLink own index y ∈ gw) (fb : FrameBlind (va_Pc As Pre)) (hp : ∀ U : State, U.heap = H → s.WarmedH U.vm → Pre U)
    (hrm : rm.cells = mc ∧ rm.slots = ms ∧ rm.frames + 1 ≤ R.frames ∧ 8 + (maxL + 11) + rm.locals ≤ R.locals) (hn : As.length = n) (hsz : ls.size = nL) (hst : st0 = As.reverse ++ rest) (hW : (rest.map fun v => v.category).sum ≤ 8) (hdg : decode cc pc = .ok (.invokestatic index, 3)) (hf : cells + mc ≤ R.cells ∧ slots + ms ≤ R.slots) :
    va_Run p l e R s m args below meth c H locs cells slots mc ms (F0 m pc ls st0) rest (Qc As.toArray) free := by
  obtain ⟨k1, k2, k3, k4, k5, k6⟩ := ck
  have ht := S.2.2.2.2
  have hG : GoodIn gw (.code y bytes maxL ret :: gw) := gw_goodIn fun w hw => by
    rcases List.mem_cons.mp hw with rfl | h
    · exact k1
    · exact h
  exact va_runS S hM ⟨callB_of n ht hG rfl hrm.1 hrm.2.1 (ht _ k2) (ht _ hl) ⟨k4, k5, k6⟩ ⟨hrm.2.2.1, hrm.2.2.2⟩, ht _ k3⟩ ⟨fb, fun U h1 h2 => ⟨rfl, hp U h1 h2⟩⟩ rfl hn hsz hst (lv_room hW) hdg hf
theorem run_V (S : CallFix p m c cc nL s args gw own) (ck : ckV y bytes maxL ret n) (hM : Met l y (.code y bytes maxL ret :: gw) rm (va_Pc (.ref b :: As) Pre) Qc mc ms free) (hl : Cond.methodLink own index y ∈ gw) (fb : FrameBlind (va_Pc (.ref b :: As) Pre)) (hcell : ∃ cell : Cell, H[b]? = some cell ∧ cell.vm.isStatics = false ∧ s.vm.findClass y.cls = some cell.cls) (hp : ∀ U : State, U.heap = H → s.WarmedH U.vm → Pre U)
    (hrm : rm.cells = mc ∧ rm.slots = ms ∧ rm.frames + 1 ≤ R.frames ∧ 8 + (maxL + 11) + rm.locals ≤ R.locals) (hn : As.length = n) (hsz : ls.size = nL) (hst : st0 = As.reverse ++ .ref b :: rest) (hW : (rest.map fun v => v.category).sum ≤ 8) (hdg : decode cc pc = .ok (.invokevirtual index, 3)) (hf : cells + mc ≤ R.cells ∧ slots + ms ≤ R.slots) :
    va_Run p l e R s m args below meth c H locs cells slots mc ms (F0 m pc ls st0) rest (Qc (Value.ref b :: As).toArray) free := by
  obtain ⟨k1, k2, ⟨k3, k3'⟩, k4, k5, k6⟩ := ck
  have ht := S.2.2.2.2
  have hG : GoodIn gw (.code y bytes maxL ret :: gw) := gw_goodIn fun w hw => by
    rcases List.mem_cons.mp hw with rfl | h
    · exact k1
    · exact h
  exact va_runV S hM ⟨callB_of n ht hG rfl hrm.1 hrm.2.1 (ht _ k2) (ht _ hl) ⟨k4, k5, k6⟩ ⟨hrm.2.2.1, hrm.2.2.2⟩, ht _ k3, ht _ k3'⟩ ⟨fb, hcell, fun U h1 h2 => ⟨rfl, hp U h1 h2⟩⟩ rfl hn hsz hst (lv_room hW) hdg hf
/-- static, by a link between nest mates -/
theorem run_SN {host : String} (S : CallFix p m c cc nL s args gw own) (ck : ckS y bytes maxL ret n) (hM : Met l y (.code y bytes maxL ret :: gw) rm (va_Pc As Pre) Qc mc ms free) (hl : va_Nw (.methodLinkNest own index y host) s) (fb : FrameBlind (va_Pc As Pre)) (hp : ∀ U : State, U.heap = H → s.WarmedH U.vm → Pre U)
    (hrm : rm.cells = mc ∧ rm.slots = ms ∧ rm.frames + 1 ≤ R.frames ∧ 8 + (maxL + 11) + rm.locals ≤ R.locals) (hn : As.length = n) (hsz : ls.size = nL) (hst : st0 = As.reverse ++ rest) (hW : (rest.map fun v => v.category).sum ≤ 8) (hdg : decode cc pc = .ok (.invokestatic index, 3)) (hf : cells + mc ≤ R.cells ∧ slots + ms ≤ R.slots) :
    va_Run p l e R s m args below meth c H locs cells slots mc ms (F0 m pc ls st0) rest (Qc As.toArray) free := by
  obtain ⟨k1, k2, k3, k4, k5, k6⟩ := ck
  have ht := S.2.2.2.2
  have hG : GoodIn gw (.code y bytes maxL ret :: gw) := gw_goodIn fun w hw => by
    rcases List.mem_cons.mp hw with rfl | h
    · exact k1
    · exact h
  exact va_runSN S hM ⟨va_cnB n ht hG rfl hrm.1 hrm.2.1 hl (ht _ k2) ⟨k4, k5, k6⟩ ⟨hrm.2.2.1, hrm.2.2.2⟩, ht _ k3, trivial⟩ ⟨fb, fun U h1 h2 => ⟨rfl, hp U h1 h2⟩⟩ rfl hn hsz hst (lv_room hW) hdg hf
/-- a run that leaves the heap: an int, a long, nothing comes back -/
theorem ro_i {x : Int32} {a : Array Value} (hr : va_Run p l e R s m args below meth c H locs cells slots 0 0 (F0 m pc ls st0) rest (vp_Si (fun v => v = x) a) (fun _ => False)) (kk : W p l e R s m args below meth c H locs cells slots Q (F0 m (pc + 3) ls (.int x :: rest))) : W p l e R s m args below meth c H locs cells slots Q (F0 m pc ls st0) :=
  vp_callSi hr.run fun r hr => by rw [hr]; exact kk
theorem ro_l {x : Int64} {a : Array Value} (hr : va_Run p l e R s m args below meth c H locs cells slots 0 0 (F0 m pc ls st0) rest (vp_Sl (fun v => v = x) a) (fun _ => False)) (kk : W p l e R s m args below meth c H locs cells slots Q (F0 m (pc + 3) ls (.long x :: rest))) : W p l e R s m args below meth c H locs cells slots Q (F0 m pc ls st0) :=
  vp_callSl hr.run fun r hr => by rw [hr]; exact kk
/-- ends that say just what comes back and what the block then is -/
abbrev rwQi (g : gG) (ws ws' : va_W) (x : Int32) : Array Value → State → Outcome → State → Prop := va_Qi (fun r (_ : Unit) => r = x) (fun _ t => kP g ws' t.heap) (dm ws)
abbrev rwQl (g : gG) (ws ws' : va_W) (x : Int64) : Array Value → State → Outcome → State → Prop := va_Ql (fun r (_ : Unit) => r = x) (fun _ t => kP g ws' t.heap) (dm ws)
abbrev rwQv (g : gG) (ws ws' : va_W) : Array Value → State → Outcome → State → Prop := va_Qv (fun (_ : Unit) => True) (fun _ t => kP g ws' t.heap) (dm ws)
variable {g : gG} {X : Nat → Prop} {B B' C ww ww' : va_W} {H0 : Heap}
theorem rw_i {x : Int32} {a : Array Value} (hr : va_Run p l e R s m args below meth c H locs cells slots 0 0 (F0 m pc ls st0) rest (rwQi g B B' x a) (dm B)) (ha : B'.map Prod.fst = B.map Prod.fst) (hW : ww = B ++ C) (hW' : ww' = B' ++ C) (hP : kP g ww H) (hD : va_D X ww) (hS : va_S X H0 H locs)
    (kk : ∀ (H : Heap) (locs : List Loc), kP g ww' H → va_D X ww' → va_S X H0 H locs → W p l e R s m args below meth c H locs cells slots Q (F0 m (pc + 3) ls (.int x :: rest))) : W p l e R s m args below meth c H locs cells slots Q (F0 m pc ls st0) := by
  subst hW; subst hW'
  have hX : ∀ q, dm B q → X q := fun q hq => (vD_iff.mp hD).2 q (dm_app.mpr (Or.inl hq))
  refine va_calli hr hS (fun q _ h => hX q h) hX (fun r u t H1 locs ht hvm hw hB hz1 hk1 hS => ?_)
  rw [hw]
  rw [ht] at hB
  obtain ⟨h1, h2⟩ := fr_front hP hD hB ha hk1
  exact kk H1 locs h1 h2 hS
theorem rw_l {x : Int64} {a : Array Value} (hr : va_Run p l e R s m args below meth c H locs cells slots 0 0 (F0 m pc ls st0) rest (rwQl g B B' x a) (dm B)) (ha : B'.map Prod.fst = B.map Prod.fst) (hW : ww = B ++ C) (hW' : ww' = B' ++ C) (hP : kP g ww H) (hD : va_D X ww) (hS : va_S X H0 H locs)
    (kk : ∀ (H : Heap) (locs : List Loc), kP g ww' H → va_D X ww' → va_S X H0 H locs → W p l e R s m args below meth c H locs cells slots Q (F0 m (pc + 3) ls (.long x :: rest))) : W p l e R s m args below meth c H locs cells slots Q (F0 m pc ls st0) := by
  subst hW; subst hW'
  have hX : ∀ q, dm B q → X q := fun q hq => (vD_iff.mp hD).2 q (dm_app.mpr (Or.inl hq))
  refine va_calll hr hS (fun q _ h => hX q h) hX (fun r u t H1 locs ht hvm hw hB hz1 hk1 hS => ?_)
  rw [hw]
  rw [ht] at hB
  obtain ⟨h1, h2⟩ := fr_front hP hD hB ha hk1
  exact kk H1 locs h1 h2 hS
theorem rw_v {a : Array Value} (hr : va_Run p l e R s m args below meth c H locs cells slots 0 0 (F0 m pc ls st0) rest (rwQv g B B' a) (dm B)) (ha : B'.map Prod.fst = B.map Prod.fst) (hW : ww = B ++ C) (hW' : ww' = B' ++ C) (hP : kP g ww H) (hD : va_D X ww) (hS : va_S X H0 H locs)
    (kk : ∀ (H : Heap) (locs : List Loc), kP g ww' H → va_D X ww' → va_S X H0 H locs → W p l e R s m args below meth c H locs cells slots Q (F0 m (pc + 3) ls rest)) : W p l e R s m args below meth c H locs cells slots Q (F0 m pc ls st0) := by
  subst hW; subst hW'
  have hX : ∀ q, dm B q → X q := fun q hq => (vD_iff.mp hD).2 q (dm_app.mpr (Or.inl hq))
  refine va_callv hr hS (fun q _ h => hX q h) hX (fun u t H1 locs ht hvm hw hB hz1 hk1 hS => ?_)
  rw [ht] at hB
  obtain ⟨h1, h2⟩ := fr_front hP hD hB ha hk1
  exact kk H1 locs h1 h2 hS
/-- returns -/
theorem ret_roi {x v : Int32} (hx : p.tables.exec = Jvm.exec) (hb : c.code = cc) (hr : meth.sig.returnType = some .int) (hlk : meth.locks = false) (hv : v = x) (hdg : decode cc pc = .ok (.ireturn, 1)) : W p l e R s m args below meth c s.heap [] 0 0 (MQ below (vp_Si (fun v => v = x)) args s 0 0 (fun _ => False)) (F0 m pc ls [.int v]) :=
  W.iret hx hb hr (fun t ht _ => ⟨v, rfl, hv, ht⟩) (fun _ h => by cases h) hdg hlk
theorem ret_roz {x v : Int32} {z : Bool} (hx : p.tables.exec = Jvm.exec) (hb : c.code = cc) (hr : meth.sig.returnType = some .boolean) (hlk : meth.locks = false) (hz : x = b2i z) (hv : v = x) (hdg : decode cc pc = .ok (.ireturn, 1)) : W p l e R s m args below meth c s.heap [] 0 0 (MQ below (vp_Si (fun v => v = x)) args s 0 0 (fun _ => False)) (F0 m pc ls [.int v]) := by
  subst hv
  subst hz
  exact W.zret hx hb hr (b2i_nar z) (fun t ht _ => ⟨_, rfl, rfl, ht⟩) (fun _ h => by cases h) hdg hlk
theorem ret_rol {x v : Int64} (hx : p.tables.exec = Jvm.exec) (hb : c.code = cc) (hr : meth.sig.returnType = some .long) (hlk : meth.locks = false) (hv : v = x) (hdg : decode cc pc = .ok (.lreturn, 1)) : W p l e R s m args below meth c s.heap [] 0 0 (MQ below (vp_Sl (fun v => v = x)) args s 0 0 (fun _ => False)) (F0 m pc ls [.long v]) :=
  W.lret hx hb hr (fun t ht _ => ⟨v, rfl, hv, ht⟩) (fun _ h => by cases h) hdg hlk
theorem ret_rwi {x v : Int32} (hx : p.tables.exec = Jvm.exec) (hb : c.code = cc) (hr : meth.sig.returnType = some .int) (hlk : meth.locks = false) (hv : v = x) (hB : kP g B' H) (hS : va_S (dm B) s.heap H locs) (hdg : decode cc pc = .ok (.ireturn, 1)) : W p l e R s m args below meth c H locs 0 0 (MQ below (rwQi g B B' x) args s 0 0 (dm B)) (F0 m pc ls [.int v]) :=
  W.iret hx hb hr (fun t ht _ => ⟨⟨v, (), rfl, hv, by show kP g B' t.heap; rw [ht]; exact hB⟩, hS.F ht⟩) hS.2.2 hdg hlk
theorem ret_rwz {x v : Int32} {z : Bool} (hx : p.tables.exec = Jvm.exec) (hb : c.code = cc) (hr : meth.sig.returnType = some .boolean) (hlk : meth.locks = false) (hz : x = b2i z) (hv : v = x) (hB : kP g B' H) (hS : va_S (dm B) s.heap H locs) (hdg : decode cc pc = .ok (.ireturn, 1)) : W p l e R s m args below meth c H locs 0 0 (MQ below (rwQi g B B' x) args s 0 0 (dm B)) (F0 m pc ls [.int v]) := by
  subst hv
  subst hz
  exact W.zret hx hb hr (b2i_nar z) (fun t ht _ => ⟨⟨_, (), rfl, rfl, by show kP g B' t.heap; rw [ht]; exact hB⟩, hS.F ht⟩) hS.2.2 hdg hlk
theorem ret_rwl {x v : Int64} (hx : p.tables.exec = Jvm.exec) (hb : c.code = cc) (hr : meth.sig.returnType = some .long) (hlk : meth.locks = false) (hv : v = x) (hB : kP g B' H) (hS : va_S (dm B) s.heap H locs) (hdg : decode cc pc = .ok (.lreturn, 1)) : W p l e R s m args below meth c H locs 0 0 (MQ below (rwQl g B B' x) args s 0 0 (dm B)) (F0 m pc ls [.long v]) :=
  W.lret hx hb hr (fun t ht _ => ⟨⟨v, (), rfl, hv, by show kP g B' t.heap; rw [ht]; exact hB⟩, hS.F ht⟩) hS.2.2 hdg hlk
theorem ret_rwv (hx : p.tables.exec = Jvm.exec) (hb : c.code = cc) (hr : meth.sig.returnType = none) (hlk : meth.locks = false) (hB : kP g B' H) (hS : va_S (dm B) s.heap H locs) (hdg : decode cc pc = .ok (.return_, 1)) : W p l e R s m args below meth c H locs 0 0 (MQ below (rwQv g B B') args s 0 0 (dm B)) (F0 m pc ls []) :=
  W.vret hx hb hr (fun t ht _ => ⟨⟨(), rfl, trivial, by show kP g B' t.heap; rw [ht]; exact hB⟩, hS.F ht⟩) hS.2.2 hdg hlk
end KCALL
