/-! ===== the words of the text as string constants ===== -/
abbrev sQ : Type := (Nat → Nat) × (Nat → Nat)
def swL : List Nat := [4, 6, 3, 6, 4]
def swB : List (List Int32) := [[121, 97, 114, 100], [112, 108, 97, 121, 101, 114], [110, 117, 116], [115, 116, 114, 105, 107, 101], [119, 97, 105, 116]]
def swX : List Nat := [45, 55, 60, 65, 70]
def swT : List String := ["yard", "player", "nut", "strike", "wait"]
def swC (i k : Nat) : Int32 := (swB.getD i []).getD k 0 &&& 255
theorem sw_l6 : ∀ i, i < 5 → swL.getD i 0 < 1000 := by decide +kernel
theorem sw_len : ∀ i, i < 5 → swL.getD i 0 < 2 ^ 31 := by decide +kernel
def kS (q : sQ) (A : Nat → Prop) (U : State) (H : Heap) : Prop := vk_S 5 swL swB q.1 q.2 A U H ∧ va_Z "java/lang/String" "COMPACT_STRINGS" "Z" (.int 1) A U H ∧ va_Zq "jdk/internal/util/Preconditions" "SIOOBE_FORMATTER" "Ljava/util/function/BiFunction;" A U H ∧ ∀ i, i < 5 → vk_R "ConkerBouts$Text" (swX.getD i 0) (swT.getD i "") (q.1 i) U
theorem kS_go {q : sQ} {A B : Nat → Prop} {s U : State} {H : Heap} {locs : List Loc} (hAB : ∀ z, B z → A z) (hZ : kS q A s s.heap) (hS : va_S A s.heap H locs) (hU : U.heap = H) (hW : s.WarmedH U.vm) : kS q B U U.heap := by
  rw [hU]
  exact ⟨((hZ.1.kept hS.2.1).narrow hAB).moved hW.alike, ((hZ.2.1.kept hS.2.1).narrow hAB).moved hW.alike, ((hZ.2.2.1.kept hS.2.1).narrow hAB).moved hW.alike, fun i hi => vk_R.warm hW (hZ.2.2.2 i hi)⟩
theorem kS_call {q : sQ} {A : Nat → Prop} {U : State} {H : Heap} {f : JFrame} {mk : MethodId} {a : Array Value} (h : kS q A U H) : kS q A (U.calling f mk a) H :=
  ⟨h.1.moved (u := U) (U := U.calling f mk a) (Vm.Alike.refl U.vm), h.2.1.moved (u := U) (U := U.calling f mk a) (Vm.Alike.refl U.vm), h.2.2.1.moved (u := U) (U := U.calling f mk a) (Vm.Alike.refl U.vm), fun i hi => vk_R.same (u := U) (U := U.calling f mk a) rfl (h.2.2.2 i hi)⟩
theorem fb_S (q : sQ) (A : Nat → Prop) (av : List Value) : FrameBlind (va_Pc av (fun U => kS q A U U.heap)) := fun _ _ _ _ h => ⟨h.1, kS_call h.2⟩
theorem fb_roS (g : gG) (ws : va_W) (q : sQ) (av : List Value) : FrameBlind (va_Pc av (fun U => roPre g ws U ∧ kS q (fun _ => False) U U.heap)) := fun _ _ _ _ h => ⟨h.1, ⟨h.2.1.1, kK_call h.2.1.2⟩, kS_call h.2.2⟩
theorem fb_rwS (g : gG) (ws : va_W) (q : sQ) (av : List Value) : FrameBlind (va_Pc av (fun U => rwPre g ws U ∧ kS q (dm ws) U U.heap)) := fun _ _ _ _ h => ⟨h.1, ⟨h.2.1.1, kK_call h.2.1.2.1, h.2.1.2.2⟩, kS_call h.2.2⟩
theorem dm_sub {X : Nat → Prop} {A B : va_W} (h : A.Sublist B) (hD : va_D X B) : ∀ z, dm A z → X z := fun z hz => (vD_iff.mp hD).2 z ((h.map Prod.fst).subset hz)
section KSTR
variable {p : Program} {l : Launch} {e : Env} {s : State} {m : MethodId} {args : Array Value} {below : List Frame} {meth : Method} {c : Code} {H : Heap} {locs : List Loc} {cells slots : Nat} {Q : State → Prop} {R : Room} {cc : ByteArray} {pc : Nat} {ls : Array Slot} {rest st0 : List Value}
def rvQ : Array Value → State → Outcome → State → Prop := fun _ st o t => o = .returned none ∧ t.heap = st.heap
theorem ro_v {a : Array Value} (hr : va_Run p l e R s m args below meth c H locs cells slots 0 0 (F0 m pc ls st0) rest (rvQ a) (fun _ => False)) (kk : W p l e R s m args below meth c H locs cells slots Q (F0 m (pc + 3) ls rest)) : W p l e R s m args below meth c H locs cells slots Q (F0 m pc ls st0) := by
  intro T hT X
  obtain ⟨v, st₀, t, T', L, h0, X', hL, e1, ⟨hv, hh⟩, st⟩ := hr.run T hT X
  cases hv
  obtain ⟨t2, a1, b1⟩ := kk T' (by rw [e1, hh, h0]) (Stand.forget X' (fun q h => (hL q h).elim))
  exact ⟨t2, st t2 a1, b1⟩
theorem ret_rov (hx : p.tables.exec = Jvm.exec) (hb : c.code = cc) (hr : meth.sig.returnType = none) (hlk : meth.locks = false) (hdg : decode cc pc = .ok (.return_, 1)) : W p l e R s m args below meth c s.heap [] 0 0 (MQ below rvQ args s 0 0 (fun _ => False)) (F0 m pc ls []) :=
  W.vret hx hb hr (fun t ht _ => ⟨rfl, ht⟩) (fun _ h => by cases h) hdg hlk
theorem ret_ron {x v : Int32} {ty : FieldType} (hx : p.tables.exec = Jvm.exec) (hb : c.code = cc) (hr : meth.sig.returnType = some ty) (hlk : meth.locks = false) (hn : narrow ty (.int v) = .int v) (hv : v = x) (hdg : decode cc pc = .ok (.ireturn, 1)) : W p l e R s m args below meth c s.heap [] 0 0 (MQ below (vp_Si (fun v => v = x)) args s 0 0 (fun _ => False)) (F0 m pc ls [.int v]) :=
  W.zret hx hb hr hn (fun t ht _ => ⟨v, rfl, hv, ht⟩) (fun _ h => by cases h) hdg hlk
end KSTR
/-- whether the word looked at is the i-th -/
def spB (f : Nat → Int32) (N : Nat) (so : Int32) (sta beh i : Nat) : Bool := decide (so = 1) && decide (beh - sta = swL.getD i 0) && (List.range (swL.getD i 0)).all (fun z => decide (f (sta + z) = swC i z))
theorem sp_so {f : Nat → Int32} {N : Nat} {so : Int32} {sta beh i : Nat} (h : ¬ so = 1) : spB f N so sta beh i = false := by
  unfold spB; rw [decide_eq_false h]; rfl
theorem sp_le {f : Nat → Int32} {N : Nat} {so : Int32} {sta beh i : Nat} (h : ¬ beh - sta = swL.getD i 0) : spB f N so sta beh i = false := by
  unfold spB; rw [decide_eq_false h, Bool.and_false]; rfl
theorem sp_ne {f : Nat → Int32} {N : Nat} {so : Int32} {sta beh i k : Nat} (hk : k < swL.getD i 0) (h : ¬ f (sta + k) = swC i k) : spB f N so sta beh i = false := by
  unfold spB
  apply Bool.eq_false_iff.mpr
  intro z
  simp only [Bool.and_eq_true] at z
  exact h (of_decide_eq_true (List.all_eq_true.mp z.2 k (List.mem_range.mpr hk)))
theorem sp_ok {f : Nat → Int32} {N : Nat} {so : Int32} {sta beh i : Nat} (h : so = 1) (hl : beh - sta = swL.getD i 0) (ha : ∀ z, z < swL.getD i 0 → f (sta + z) = swC i z) : spB f N so sta beh i = true := by
  unfold spB
  rw [decide_eq_true h, decide_eq_true hl]
  exact List.all_eq_true.mpr fun z hz => decide_eq_true (ha z (List.mem_range.mp hz))
theorem lt_sp {f : Nat → Int32} {sta i k : Nat} (h : ∀ z, z < k → f (sta + z) = swC i z) (hk : f (sta + k) = swC i k) : ∀ z, z < k + 1 → f (sta + z) = swC i z := fun z hz => by
  by_cases e : z = k
  · rw [e]; exact hk
  · exact h z (by omega)
