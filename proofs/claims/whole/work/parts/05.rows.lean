theorem in_of (ws : List Cond) (ps : List Nat) (hp : ws = ps.filterMap (fun i => lw_tbl[i]?)) (hg : ws.all goodWord = true) : ∀ w ∈ ws, w ∈ gw := by
  intro w hw
  have h1 := List.all_eq_true.mp hg w hw
  rw [hp] at hw
  obtain ⟨i, -, hi⟩ := List.mem_filterMap.mp hw
  exact gw_in (List.mem_of_getElem? hi) h1
theorem in_1 : ∀ w ∈ u_ws RX1 TX1 5, w ∈ gw := in_of _ [190, 192, 194, 196, 198] (by decide +kernel) (by decide +kernel)
theorem in_2 : ∀ w ∈ u_ws RX2 TX2 1, w ∈ gw := in_of _ [279] (by decide +kernel) (by decide +kernel)
theorem in_3 : ∀ w ∈ u_ws RX3 TX3 2, w ∈ gw := in_of _ [152, 154] (by decide +kernel) (by decide +kernel)
theorem in_4 : ∀ w ∈ u_ws RX4 TX4 3, w ∈ gw := in_of _ [172, 174, 176] (by decide +kernel) (by decide +kernel)
theorem in_5 : ∀ w ∈ u_ws RX5 TX5 7, w ∈ gw := in_of _ [217, 219, 221, 223, 225, 227, 229] (by decide +kernel) (by decide +kernel)
theorem in_6 : ∀ w ∈ u_ws RX6 TX6 9, w ∈ gw := in_of _ [253, 255, 257, 259, 261, 263, 265, 267, 269] (by decide +kernel) (by decide +kernel)
theorem in_7 : ∀ w ∈ u_ws RX7 TX7 11, w ∈ gw := in_of _ [119, 121, 123, 125, 127, 129, 131, 133, 135, 137, 139] (by decide +kernel) (by decide +kernel)
theorem in_8 : ∀ w ∈ u_ws RX8 TX8 10, w ∈ gw := in_of _ [292, 294, 296, 298, 300, 302, 304, 306, 308, 310] (by decide +kernel) (by decide +kernel)
theorem in_9 : ∀ w ∈ u_ws RX9 TX9 24, w ∈ gw := in_of _ [984, 986, 988, 990, 992, 994, 996, 998, 1000, 1002, 1004, 1006, 1008, 1010, 1012, 1014, 1016, 1018, 1020, 1022, 1024, 1026, 1028, 1030] (by decide +kernel) (by decide +kernel)
abbrev cl (i : Int32) : Nat := i.toNatClampNeg
theorem inc_nI (k : Nat) : nI k + Int32.ofInt 1 = nI (k + 1) := nI_1 k
section KROW
variable {p : Program} {l : Launch} {e : Env} {s : State} {m : MethodId} {args : Array Value} {below : List Frame} {meth : Method} {c : Code} {H : Heap} {locs : List Loc} {cells slots : Nat} {Q : State → Prop} {R : Room} {cc : ByteArray} {nL pc index a : Nat} {own : String} {ls : Array Slot} {rest : List Value} {g : gG} {B C : va_W}
theorem top_i {x y : Int32} (h : x = y) (k : W p l e R s m args below meth c H locs cells slots Q (F0 m pc ls (.int y :: rest))) : W p l e R s m args below meth c H locs cells slots Q (F0 m pc ls (.int x :: rest)) := by rw [h]; exact k
theorem top_l {x y : Int64} (h : x = y) (k : W p l e R s m args below meth c H locs cells slots Q (F0 m pc ls (.long y :: rest))) : W p l e R s m args below meth c H locs cells slots Q (F0 m pc ls (.long x :: rest)) := by rw [h]; exact k
theorem kget (S : CallFix p m c cc nL s args gw own) (hK : kK g s) (hP : kP g B H) (q0 : Nat) {ci : Nat} {fs : List Value} (he : B[q0]? = some (a, .inr (ci, fs))) {Cn : String} {T : u_T} {N : Nat} (hc : vwCl[ci]? = some (Cn, T, N)) (hin : ∀ w ∈ u_ws Cn T N, w ∈ gw) (k : Nat) (hk : k < N) (hl : Cond.fieldLink own index (T k).1 (T k).2.1 (T k).2.2.1 ∈ gw) {v : Value} (hv : fs[k]? = some v) (hdg : decode cc pc = .ok (.getfield index, 3))
    (kk : W p l e R s m args below meth c H locs cells slots Q (F0 m (pc + 3) ls (v :: rest))) : W p l e R s m args below meth c H locs cells slots Q (F0 m pc ls (.ref a :: rest)) :=
  va_get S.1 S.2.1 S.2.2.2.2 hin S.2.2.2.1 hK.1 hP q0 he hc k hk (S.2.2.2.2 _ hl) (fun _ h => h) hv hdg kk
theorem kgetN {host : String} (S : CallFix p m c cc nL s args gw own) (hK : kK g s) (hP : kP g B H) (q0 : Nat) {ci : Nat} {fs : List Value} (he : B[q0]? = some (a, .inr (ci, fs))) {Cn : String} {T : u_T} {N : Nat} (hc : vwCl[ci]? = some (Cn, T, N)) (hin : ∀ w ∈ u_ws Cn T N, w ∈ gw) (k : Nat) (hk : k < N) (hl : va_Nw (.fieldLinkNest own index (T k).1 (T k).2.1 (T k).2.2.1 host) s) {v : Value} (hv : fs[k]? = some v) (hdg : decode cc pc = .ok (.getfield index, 3))
    (kk : W p l e R s m args below meth c H locs cells slots Q (F0 m (pc + 3) ls (v :: rest))) : W p l e R s m args below meth c H locs cells slots Q (F0 m pc ls (.ref a :: rest)) :=
  va_getN S.1 S.2.1 S.2.2.2.2 hin S.2.2.2.1 hK.1 hP q0 he hc k hk (va_Nw.use rfl hl) (fun _ h => h) hv hdg kk
theorem kald (S : CallFix p m c cc nL s args gw own) (hK : kK g s) (hP : kP g B H) (q0 : Nat) {n : Nat} {f : Nat → Int32} (ha : B[q0]? = some (a, .inl (g.2.1, n, .inl f))) {i v : Int32} (hin : vp_in i n) (hv : f (cl i) = v) (hdg : decode cc pc = .ok (.iaload, 1))
    (kk : W p l e R s m args below meth c H locs cells slots Q (F0 m (pc + 1) ls (.int v :: rest))) : W p l e R s m args below meth c H locs cells slots Q (F0 m pc ls (.int i :: .ref a :: rest)) :=
  va_iald S.1 S.2.1 hK.1 hP q0 0 ha rfl hin hdg (by rw [show f i.toNatClampNeg = v from hv]; exact kk)
variable {X : Nat → Prop} {B' : va_W} {H0 : Heap}
theorem app_get {q0 : Nat} {x : Nat × va_E} (h : B[q0]? = some x) : (B ++ C)[q0]? = some x := by
  rw [List.getElem?_append_left (List.getElem?_eq_some_iff.mp h).1]; exact h
theorem app_set {q0 : Nat} {x y : Nat × va_E} (h : B[q0]? = some x) : (B ++ C).set q0 y = B.set q0 y ++ C := by
  rw [List.set_append_left _ _ (List.getElem?_eq_some_iff.mp h).1]
/-- a block in front takes another value -/
theorem kP_new (hB : ∀ H, kP g B H → kP g B' H) (h : kP g (B ++ C) H) : kP g (B' ++ C) H := kP_app.mpr ⟨hB H (kP_app.mp h).1, (kP_app.mp h).2⟩
theorem kput (S : CallFix p m c cc nL s args gw own) (hK : kK g s) (hP : kP g (B ++ C) H) (hD : va_D X (B ++ C)) (hS : va_S X H0 H locs) (q0 : Nat) {ci : Nat} {fs : List Value} (he : B[q0]? = some (a, .inr (ci, fs))) {Cn : String} {T : u_T} {N : Nat} (hc : vwCl[ci]? = some (Cn, T, N)) (hin : ∀ w ∈ u_ws Cn T N, w ∈ gw) (ty0 : Nat → FieldType) (hty : ∀ k, k < N → parseFieldDescriptor (T k).2.2.1 = some (ty0 k)) (hnm : ∀ a, a < N → ∀ b, b < N → a ≠ b → (T a).2.1 ≠ (T b).2.1) (k : Nat) (hk : k < N) (hl : Cond.fieldLink own index (T k).1 (T k).2.1 (T k).2.2.1 ∈ gw) (hfin : (T k).2.2.2 = false) {ty : FieldType} {v : Value} (hd : parseFieldDescriptor (T k).2.2.1 = some ty) (hn : narrow ty v = v) (hfit : fits ty v = true) (hlen : k < fs.length)
    (hB : ∀ H, kP g (B.set q0 (a, .inr (ci, fs.set k v))) H → kP g B' H) (hadr : B'.map Prod.fst = B.map Prod.fst) (hdg : decode cc pc = .ok (.putfield index, 3)) (kk : ∀ (H : Heap) (locs : List Loc), kP g (B' ++ C) H → va_D X (B' ++ C) → va_S X H0 H locs → W p l e R s m args below meth c H locs cells slots Q (F0 m (pc + 3) ls rest)) : W p l e R s m args below meth c H locs cells slots Q (F0 m pc ls (v :: .ref a :: rest)) :=
  va_put S.1 S.2.1 S.2.2.2.2 hin ty0 hty hnm S.2.2.2.1 hK.1 hP hD hS q0 (app_get he) hc k hk (S.2.2.2.2 _ hl) (fun _ h => h) hfin hd hn hfit hlen hdg (fun H1 locs1 hP1 _ hS1 => kk H1 locs1 (kP_new hB (by rw [app_set he] at hP1; exact hP1)) (vD_adr (by rw [List.map_append, List.map_append, hadr]) hD) hS1)
theorem kast (S : CallFix p m c cc nL s args gw own) (hK : kK g s) (hP : kP g (B ++ C) H) (hD : va_D X (B ++ C)) (hS : va_S X H0 H locs) (q0 : Nat) {n : Nat} {f : Nat → Int32} (ha : B[q0]? = some (a, .inl (g.2.1, n, .inl f))) {i x : Int32} (hin : vp_in i n) (hB : ∀ H, kP g (B.set q0 (a, .inl (g.2.1, n, .inl (upd f (cl i) x)))) H → kP g B' H) (hadr : B'.map Prod.fst = B.map Prod.fst) (hdg : decode cc pc = .ok (.iastore, 1))
    (kk : ∀ (H : Heap) (locs : List Loc), kP g (B' ++ C) H → va_D X (B' ++ C) → va_S X H0 H locs → W p l e R s m args below meth c H locs cells slots Q (F0 m (pc + 1) ls rest)) : W p l e R s m args below meth c H locs cells slots Q (F0 m pc ls (.int x :: .int i :: .ref a :: rest)) :=
  va_iast S.1 S.2.1 hK.1 hP hD hS q0 0 (app_get ha) rfl hin hdg (fun H1 locs1 hP1 _ hS1 => kk H1 locs1 (kP_new hB (by rw [app_set ha] at hP1; exact hP1)) (vD_adr (by rw [List.map_append, List.map_append, hadr]) hD) hS1)
theorem app_get2 {q0 k : Nat} {S : va_W} {x : Nat × va_E} (hn : B.length + k = q0) (h : S[k]? = some x) : (B ++ (S ++ C))[q0]? = some x := by
  subst hn
  rw [List.getElem?_append_right (Nat.le_add_right _ _), Nat.add_sub_cancel_left]
  exact app_get h
theorem kcpy {f f1 : Nat → Int32} {n0 n1 a0 : Nat} {sp dp n : Int32} (S : CallFix p m c cc nL s args gw own) (hml : c.maxLocals = ls.size) (hK : kK g s) (hP : kP g (B ++ C) H) (hD : va_D X (B ++ C)) (hS : va_S X H0 H locs) (q0 q1 : Nat) (ha0 : (B ++ C)[q0]? = some (a0, .inl (g.2.1, n0, .inl f))) (ha1 : B[q1]? = some (a, .inl (g.2.1, n1, .inl f1)))
    (hlink : (Cond.methodLink own index arraycopyName).before args s = true) (hnat : (Cond.native arraycopyName).before args s = true) (hstat : (Cond.static arraycopyName).before args s = true) (hini : (Cond.initialized "java/lang/System").before args s = true) (h1 : ¬ sp < 0) (h2 : ¬ dp < 0) (h3 : ¬ n < 0) (h4 : sp.toNatClampNeg + n.toNatClampNeg ≤ n0) (h5 : dp.toNatClampNeg + n.toNatClampNeg ≤ n1)
    (hB : ∀ H, kP g (B.set q1 (a, .inl (g.2.1, n1, .inl (va_cpy f f1 (cl sp) (cl dp) (cl n))))) H → kP g B' H) (hadr : B'.map Prod.fst = B.map Prod.fst)
    (hframes : 1 ≤ R.frames) (hlocals : (rest.map fun v => v.category).sum + (nativeFrameWords "java/lang/System" "arraycopy" 5 + 11) ≤ R.locals) (hdg : decode cc pc = .ok (.invokestatic index, 3))
    (kk : ∀ (H : Heap) (locs : List Loc), kP g (B' ++ C) H → va_D X (B' ++ C) → va_S X H0 H locs → W p l e R s m args below meth c H locs cells slots Q (F0 m (pc + 3) ls rest)) : W p l e R s m args below meth c H locs cells slots Q (F0 m pc ls (.int n :: .int dp :: .ref a :: .int sp :: .ref a0 :: rest)) :=
  va_copyi S.1 S.2.1 hml S.2.2.2.1 hlink hnat hstat hini hK.1 hP hD hS q0 q1 0 0 ha0 (app_get ha1) rfl rfl rfl h1 h2 h3 h4 h5 (fun _ _ => rfl) hframes hlocals hdg (fun H1 locs1 hP1 _ hS1 => kk H1 locs1 (kP_new hB (by rw [app_set ha1] at hP1; exact hP1)) (vD_adr (by rw [List.map_append, List.map_append, hadr]) hD) hS1)
end KROW
/-- array cells are alike where their places are -/
theorem arr_congr {cI : ClassId} {n : Nat} {f h : Nat → Int32} (e : ∀ j, j < n → f j = h j) : vp_cell cI (n, .inl f) = vp_cell cI (n, .inl h) := by
  have hh : (fun j : Fin n => Value.int (f j.val)) = fun j : Fin n => Value.int (h j.val) := funext fun j => by rw [e j.val j.isLt]
  simp only [vp_cell, arrV, hh]
/-- a yard: its object and its rows; r: number, players, nuts, then the rows one behind another -/
def yW (g : gG) (a : Nat → Nat) (r : Nat → Int32) : va_W := [(a 0, .inr (6, [.int (r 1), .int (r 2), .int (r 0), .ref (a 1), .ref (a 2), .ref (a 3), .ref (a 4), .ref (a 5), .ref (a 6), .ref (a 7), .ref (a 8)])),
  (a 1, .inl (g.2.1, 3, .inl (fun j => r (3 + j)))), (a 2, .inl (g.2.1, 3, .inl (fun j => r (6 + j)))), (a 3, .inl (g.2.1, 6, .inl (fun j => r (9 + j)))), (a 4, .inl (g.2.1, 6, .inl (fun j => r (15 + j)))), (a 5, .inl (g.2.1, 6, .inl (fun j => r (21 + j)))), (a 6, .inl (g.2.1, 6, .inl (fun j => r (27 + j)))), (a 7, .inl (g.2.1, 6, .inl (fun j => r (33 + j)))), (a 8, .inl (g.2.1, 6, .inl (fun j => r (39 + j))))]
theorem va_arr_congr {D : va_G} {a : Nat} {cI : ClassId} {n : Nat} {f h : Nat → Int32} {H : Heap} (e : ∀ j, j < n → f j = h j) (hh : va_at D vwCl (a, .inl (cI, n, .inl f)) H) : va_at D vwCl (a, .inl (cI, n, .inl h)) H := by
  show H[a]? = some (vp_cell cI (n, .inl h))
  rw [← arr_congr e]
  exact hh
theorem kP_cons {g : gG} {q : Nat × va_E} {ws : va_W} {H : Heap} : kP g (q :: ws) H ↔ va_at g.1 vwCl q H ∧ kP g ws H := by
  simp only [kP_mem, List.mem_cons, forall_eq_or_imp]
theorem upd_ne {r : Nat → Int32} {k j : Nat} {x : Int32} (h : ¬ j = k) : upd r k x j = r j := if_neg h
theorem upd_eq {r : Nat → Int32} {k : Nat} {x : Int32} : upd r k x k = x := if_pos rfl
theorem upd_sh {r : Nat → Int32} {o k j : Nat} {x : Int32} : upd (fun j => r (o + j)) k x j = upd r (o + k) x (o + j) := by
  unfold upd
  by_cases h : j = k
  · rw [if_pos h, if_pos (by omega)]
  · rw [if_neg h, if_neg (by omega)]
theorem cl_lt {i : Int32} {n : Nat} (h : vp_in i n) : cl i < n := by
  have h2 := fun z => h (Or.inr z)
  exact Nat.lt_of_not_le h2
theorem yF1 {g : gG} {a : Nat → Nat} {r : Nat → Int32} {v : Int32} : ∀ H, kP g ((yW g a r).set 0 (a 0, .inr (6, [.int (r 1), .int (r 2), .int (r 0), .ref (a 1), .ref (a 2), .ref (a 3), .ref (a 4), .ref (a 5), .ref (a 6), .ref (a 7), .ref (a 8)].set 0 (.int v)))) H → kP g (yW g a (upd r 1 v)) H := by
  intro H h
  simp only [yW, List.set, kP_cons] at h ⊢
  obtain ⟨h0, h1, h2, h3, h4, h5, h6, h7, h8, h9⟩ := h
  exact ⟨h0, va_arr_congr (fun j hj => (upd_ne (by omega)).symm) h1, va_arr_congr (fun j hj => (upd_ne (by omega)).symm) h2, va_arr_congr (fun j hj => (upd_ne (by omega)).symm) h3, va_arr_congr (fun j hj => (upd_ne (by omega)).symm) h4, va_arr_congr (fun j hj => (upd_ne (by omega)).symm) h5, va_arr_congr (fun j hj => (upd_ne (by omega)).symm) h6, va_arr_congr (fun j hj => (upd_ne (by omega)).symm) h7, va_arr_congr (fun j hj => (upd_ne (by omega)).symm) h8, h9⟩
theorem yF2 {g : gG} {a : Nat → Nat} {r : Nat → Int32} {v : Int32} : ∀ H, kP g ((yW g a r).set 0 (a 0, .inr (6, [.int (r 1), .int (r 2), .int (r 0), .ref (a 1), .ref (a 2), .ref (a 3), .ref (a 4), .ref (a 5), .ref (a 6), .ref (a 7), .ref (a 8)].set 1 (.int v)))) H → kP g (yW g a (upd r 2 v)) H := by
  intro H h
  simp only [yW, List.set, kP_cons] at h ⊢
  obtain ⟨h0, h1, h2, h3, h4, h5, h6, h7, h8, h9⟩ := h
  exact ⟨h0, va_arr_congr (fun j hj => (upd_ne (by omega)).symm) h1, va_arr_congr (fun j hj => (upd_ne (by omega)).symm) h2, va_arr_congr (fun j hj => (upd_ne (by omega)).symm) h3, va_arr_congr (fun j hj => (upd_ne (by omega)).symm) h4, va_arr_congr (fun j hj => (upd_ne (by omega)).symm) h5, va_arr_congr (fun j hj => (upd_ne (by omega)).symm) h6, va_arr_congr (fun j hj => (upd_ne (by omega)).symm) h7, va_arr_congr (fun j hj => (upd_ne (by omega)).symm) h8, h9⟩
theorem yF0 {g : gG} {a : Nat → Nat} {r : Nat → Int32} {v : Int32} : ∀ H, kP g ((yW g a r).set 0 (a 0, .inr (6, [.int (r 1), .int (r 2), .int (r 0), .ref (a 1), .ref (a 2), .ref (a 3), .ref (a 4), .ref (a 5), .ref (a 6), .ref (a 7), .ref (a 8)].set 2 (.int v)))) H → kP g (yW g a (upd r 0 v)) H := by
  intro H h
  simp only [yW, List.set, kP_cons] at h ⊢
  obtain ⟨h0, h1, h2, h3, h4, h5, h6, h7, h8, h9⟩ := h
  exact ⟨h0, va_arr_congr (fun j hj => (upd_ne (by omega)).symm) h1, va_arr_congr (fun j hj => (upd_ne (by omega)).symm) h2, va_arr_congr (fun j hj => (upd_ne (by omega)).symm) h3, va_arr_congr (fun j hj => (upd_ne (by omega)).symm) h4, va_arr_congr (fun j hj => (upd_ne (by omega)).symm) h5, va_arr_congr (fun j hj => (upd_ne (by omega)).symm) h6, va_arr_congr (fun j hj => (upd_ne (by omega)).symm) h7, va_arr_congr (fun j hj => (upd_ne (by omega)).symm) h8, h9⟩
theorem yA1 {g : gG} {a : Nat → Nat} {r : Nat → Int32} {i x : Int32} (hi : vp_in i 3) : ∀ H, kP g ((yW g a r).set 1 (a 1, .inl (g.2.1, 3, .inl (upd (fun j => r (3 + j)) (cl i) x)))) H → kP g (yW g a (upd r (3 + cl i) x)) H := by
  intro H h
  have hc := cl_lt hi
  simp only [yW, List.set, kP_cons] at h ⊢
  obtain ⟨h0, h1, h2, h3, h4, h5, h6, h7, h8, h9⟩ := h
  refine ⟨?_, va_arr_congr (fun j hj => upd_sh) h1, va_arr_congr (fun j hj => (upd_ne (by omega)).symm) h2, va_arr_congr (fun j hj => (upd_ne (by omega)).symm) h3, va_arr_congr (fun j hj => (upd_ne (by omega)).symm) h4, va_arr_congr (fun j hj => (upd_ne (by omega)).symm) h5, va_arr_congr (fun j hj => (upd_ne (by omega)).symm) h6, va_arr_congr (fun j hj => (upd_ne (by omega)).symm) h7, va_arr_congr (fun j hj => (upd_ne (by omega)).symm) h8, h9⟩
  rw [upd_ne (by omega), upd_ne (by omega), upd_ne (by omega)]; exact h0
theorem yA2 {g : gG} {a : Nat → Nat} {r : Nat → Int32} {i x : Int32} (hi : vp_in i 3) : ∀ H, kP g ((yW g a r).set 2 (a 2, .inl (g.2.1, 3, .inl (upd (fun j => r (6 + j)) (cl i) x)))) H → kP g (yW g a (upd r (6 + cl i) x)) H := by
  intro H h
  have hc := cl_lt hi
  simp only [yW, List.set, kP_cons] at h ⊢
  obtain ⟨h0, h1, h2, h3, h4, h5, h6, h7, h8, h9⟩ := h
  refine ⟨?_, va_arr_congr (fun j hj => (upd_ne (by omega)).symm) h1, va_arr_congr (fun j hj => upd_sh) h2, va_arr_congr (fun j hj => (upd_ne (by omega)).symm) h3, va_arr_congr (fun j hj => (upd_ne (by omega)).symm) h4, va_arr_congr (fun j hj => (upd_ne (by omega)).symm) h5, va_arr_congr (fun j hj => (upd_ne (by omega)).symm) h6, va_arr_congr (fun j hj => (upd_ne (by omega)).symm) h7, va_arr_congr (fun j hj => (upd_ne (by omega)).symm) h8, h9⟩
  rw [upd_ne (by omega), upd_ne (by omega), upd_ne (by omega)]; exact h0
theorem yA3 {g : gG} {a : Nat → Nat} {r : Nat → Int32} {i x : Int32} (hi : vp_in i 6) : ∀ H, kP g ((yW g a r).set 3 (a 3, .inl (g.2.1, 6, .inl (upd (fun j => r (9 + j)) (cl i) x)))) H → kP g (yW g a (upd r (9 + cl i) x)) H := by
  intro H h
  have hc := cl_lt hi
  simp only [yW, List.set, kP_cons] at h ⊢
  obtain ⟨h0, h1, h2, h3, h4, h5, h6, h7, h8, h9⟩ := h
  refine ⟨?_, va_arr_congr (fun j hj => (upd_ne (by omega)).symm) h1, va_arr_congr (fun j hj => (upd_ne (by omega)).symm) h2, va_arr_congr (fun j hj => upd_sh) h3, va_arr_congr (fun j hj => (upd_ne (by omega)).symm) h4, va_arr_congr (fun j hj => (upd_ne (by omega)).symm) h5, va_arr_congr (fun j hj => (upd_ne (by omega)).symm) h6, va_arr_congr (fun j hj => (upd_ne (by omega)).symm) h7, va_arr_congr (fun j hj => (upd_ne (by omega)).symm) h8, h9⟩
  rw [upd_ne (by omega), upd_ne (by omega), upd_ne (by omega)]; exact h0
theorem yA4 {g : gG} {a : Nat → Nat} {r : Nat → Int32} {i x : Int32} (hi : vp_in i 6) : ∀ H, kP g ((yW g a r).set 4 (a 4, .inl (g.2.1, 6, .inl (upd (fun j => r (15 + j)) (cl i) x)))) H → kP g (yW g a (upd r (15 + cl i) x)) H := by
  intro H h
  have hc := cl_lt hi
  simp only [yW, List.set, kP_cons] at h ⊢
  obtain ⟨h0, h1, h2, h3, h4, h5, h6, h7, h8, h9⟩ := h
  refine ⟨?_, va_arr_congr (fun j hj => (upd_ne (by omega)).symm) h1, va_arr_congr (fun j hj => (upd_ne (by omega)).symm) h2, va_arr_congr (fun j hj => (upd_ne (by omega)).symm) h3, va_arr_congr (fun j hj => upd_sh) h4, va_arr_congr (fun j hj => (upd_ne (by omega)).symm) h5, va_arr_congr (fun j hj => (upd_ne (by omega)).symm) h6, va_arr_congr (fun j hj => (upd_ne (by omega)).symm) h7, va_arr_congr (fun j hj => (upd_ne (by omega)).symm) h8, h9⟩
  rw [upd_ne (by omega), upd_ne (by omega), upd_ne (by omega)]; exact h0
theorem yA5 {g : gG} {a : Nat → Nat} {r : Nat → Int32} {i x : Int32} (hi : vp_in i 6) : ∀ H, kP g ((yW g a r).set 5 (a 5, .inl (g.2.1, 6, .inl (upd (fun j => r (21 + j)) (cl i) x)))) H → kP g (yW g a (upd r (21 + cl i) x)) H := by
  intro H h
  have hc := cl_lt hi
  simp only [yW, List.set, kP_cons] at h ⊢
  obtain ⟨h0, h1, h2, h3, h4, h5, h6, h7, h8, h9⟩ := h
  refine ⟨?_, va_arr_congr (fun j hj => (upd_ne (by omega)).symm) h1, va_arr_congr (fun j hj => (upd_ne (by omega)).symm) h2, va_arr_congr (fun j hj => (upd_ne (by omega)).symm) h3, va_arr_congr (fun j hj => (upd_ne (by omega)).symm) h4, va_arr_congr (fun j hj => upd_sh) h5, va_arr_congr (fun j hj => (upd_ne (by omega)).symm) h6, va_arr_congr (fun j hj => (upd_ne (by omega)).symm) h7, va_arr_congr (fun j hj => (upd_ne (by omega)).symm) h8, h9⟩
  rw [upd_ne (by omega), upd_ne (by omega), upd_ne (by omega)]; exact h0
theorem yA6 {g : gG} {a : Nat → Nat} {r : Nat → Int32} {i x : Int32} (hi : vp_in i 6) : ∀ H, kP g ((yW g a r).set 6 (a 6, .inl (g.2.1, 6, .inl (upd (fun j => r (27 + j)) (cl i) x)))) H → kP g (yW g a (upd r (27 + cl i) x)) H := by
  intro H h
  have hc := cl_lt hi
  simp only [yW, List.set, kP_cons] at h ⊢
  obtain ⟨h0, h1, h2, h3, h4, h5, h6, h7, h8, h9⟩ := h
  refine ⟨?_, va_arr_congr (fun j hj => (upd_ne (by omega)).symm) h1, va_arr_congr (fun j hj => (upd_ne (by omega)).symm) h2, va_arr_congr (fun j hj => (upd_ne (by omega)).symm) h3, va_arr_congr (fun j hj => (upd_ne (by omega)).symm) h4, va_arr_congr (fun j hj => (upd_ne (by omega)).symm) h5, va_arr_congr (fun j hj => upd_sh) h6, va_arr_congr (fun j hj => (upd_ne (by omega)).symm) h7, va_arr_congr (fun j hj => (upd_ne (by omega)).symm) h8, h9⟩
  rw [upd_ne (by omega), upd_ne (by omega), upd_ne (by omega)]; exact h0
theorem yA7 {g : gG} {a : Nat → Nat} {r : Nat → Int32} {i x : Int32} (hi : vp_in i 6) : ∀ H, kP g ((yW g a r).set 7 (a 7, .inl (g.2.1, 6, .inl (upd (fun j => r (33 + j)) (cl i) x)))) H → kP g (yW g a (upd r (33 + cl i) x)) H := by
  intro H h
  have hc := cl_lt hi
  simp only [yW, List.set, kP_cons] at h ⊢
  obtain ⟨h0, h1, h2, h3, h4, h5, h6, h7, h8, h9⟩ := h
  refine ⟨?_, va_arr_congr (fun j hj => (upd_ne (by omega)).symm) h1, va_arr_congr (fun j hj => (upd_ne (by omega)).symm) h2, va_arr_congr (fun j hj => (upd_ne (by omega)).symm) h3, va_arr_congr (fun j hj => (upd_ne (by omega)).symm) h4, va_arr_congr (fun j hj => (upd_ne (by omega)).symm) h5, va_arr_congr (fun j hj => (upd_ne (by omega)).symm) h6, va_arr_congr (fun j hj => upd_sh) h7, va_arr_congr (fun j hj => (upd_ne (by omega)).symm) h8, h9⟩
  rw [upd_ne (by omega), upd_ne (by omega), upd_ne (by omega)]; exact h0
theorem yA8 {g : gG} {a : Nat → Nat} {r : Nat → Int32} {i x : Int32} (hi : vp_in i 6) : ∀ H, kP g ((yW g a r).set 8 (a 8, .inl (g.2.1, 6, .inl (upd (fun j => r (39 + j)) (cl i) x)))) H → kP g (yW g a (upd r (39 + cl i) x)) H := by
  intro H h
  have hc := cl_lt hi
  simp only [yW, List.set, kP_cons] at h ⊢
  obtain ⟨h0, h1, h2, h3, h4, h5, h6, h7, h8, h9⟩ := h
  refine ⟨?_, va_arr_congr (fun j hj => (upd_ne (by omega)).symm) h1, va_arr_congr (fun j hj => (upd_ne (by omega)).symm) h2, va_arr_congr (fun j hj => (upd_ne (by omega)).symm) h3, va_arr_congr (fun j hj => (upd_ne (by omega)).symm) h4, va_arr_congr (fun j hj => (upd_ne (by omega)).symm) h5, va_arr_congr (fun j hj => (upd_ne (by omega)).symm) h6, va_arr_congr (fun j hj => (upd_ne (by omega)).symm) h7, va_arr_congr (fun j hj => upd_sh) h8, h9⟩
  rw [upd_ne (by omega), upd_ne (by omega), upd_ne (by omega)]; exact h0
theorem yW_adr {g : gG} {a : Nat → Nat} {r q : Nat → Int32} : (yW g a r).map Prod.fst = (yW g a q).map Prod.fst := rfl
theorem adr_app {A B C D : va_W} (h : A.map Prod.fst = B.map Prod.fst) (h' : C.map Prod.fst = D.map Prod.fst) : (A ++ C).map Prod.fst = (B ++ D).map Prod.fst := by rw [List.map_append, List.map_append, h, h']
/-- a yard by its three numbers and its eight rows -/
def yV (g : gG) (a : Nat → Nat) (x1 x2 x0 : Int32) (f1 f2 f3 f4 f5 f6 f7 f8 : Nat → Int32) : va_W := [(a 0, .inr (6, [.int x1, .int x2, .int x0, .ref (a 1), .ref (a 2), .ref (a 3), .ref (a 4), .ref (a 5), .ref (a 6), .ref (a 7), .ref (a 8)])),
  (a 1, .inl (g.2.1, 3, .inl f1)), (a 2, .inl (g.2.1, 3, .inl f2)), (a 3, .inl (g.2.1, 6, .inl f3)), (a 4, .inl (g.2.1, 6, .inl f4)), (a 5, .inl (g.2.1, 6, .inl f5)), (a 6, .inl (g.2.1, 6, .inl f6)), (a 7, .inl (g.2.1, 6, .inl f7)), (a 8, .inl (g.2.1, 6, .inl f8))]
theorem yV_adr {g : gG} {a : Nat → Nat} {x1 x2 x0 z1 z2 z0 : Int32} {f1 f2 f3 f4 f5 f6 f7 f8 h1 h2 h3 h4 h5 h6 h7 h8 : Nat → Int32} : (yV g a x1 x2 x0 f1 f2 f3 f4 f5 f6 f7 f8).map Prod.fst = (yV g a z1 z2 z0 h1 h2 h3 h4 h5 h6 h7 h8).map Prod.fst := rfl
theorem yV_yW {g : gG} {a : Nat → Nat} {r : Nat → Int32} : yW g a r = yV g a (r 1) (r 2) (r 0) (fun j => r (3 + j)) (fun j => r (6 + j)) (fun j => r (9 + j)) (fun j => r (15 + j)) (fun j => r (21 + j)) (fun j => r (27 + j)) (fun j => r (33 + j)) (fun j => r (39 + j)) := rfl
theorem yVW_adr {g : gG} {a : Nat → Nat} {r : Nat → Int32} {z1 z2 z0 : Int32} {h1 h2 h3 h4 h5 h6 h7 h8 : Nat → Int32} : (yV g a z1 z2 z0 h1 h2 h3 h4 h5 h6 h7 h8).map Prod.fst = (yW g a r).map Prod.fst := rfl
theorem yV_to {g : gG} {a : Nat → Nat} {r : Nat → Int32} {x1 x2 x0 : Int32} {f1 f2 f3 f4 f5 f6 f7 f8 : Nat → Int32} (e1 : x1 = r 1) (e2 : x2 = r 2) (e0 : x0 = r 0) (h1 : ∀ j, j < 3 → f1 j = r (3 + j)) (h2 : ∀ j, j < 3 → f2 j = r (6 + j)) (h3 : ∀ j, j < 6 → f3 j = r (9 + j)) (h4 : ∀ j, j < 6 → f4 j = r (15 + j)) (h5 : ∀ j, j < 6 → f5 j = r (21 + j)) (h6 : ∀ j, j < 6 → f6 j = r (27 + j)) (h7 : ∀ j, j < 6 → f7 j = r (33 + j)) (h8 : ∀ j, j < 6 → f8 j = r (39 + j)) : ∀ H, kP g (yV g a x1 x2 x0 f1 f2 f3 f4 f5 f6 f7 f8) H → kP g (yW g a r) H := by
  intro H h
  subst e1; subst e2; subst e0
  simp only [yW, yV, kP_cons] at h ⊢
  exact ⟨h.1, va_arr_congr h1 h.2.1, va_arr_congr h2 h.2.2.1, va_arr_congr h3 h.2.2.2.1, va_arr_congr h4 h.2.2.2.2.1, va_arr_congr h5 h.2.2.2.2.2.1, va_arr_congr h6 h.2.2.2.2.2.2.1, va_arr_congr h7 h.2.2.2.2.2.2.2.1, va_arr_congr h8 h.2.2.2.2.2.2.2.2.1, h.2.2.2.2.2.2.2.2.2⟩
theorem cpy_all {f h : Nat → Int32} {n : Int32} {j : Nat} (hj : j < cl n) : va_cpy f h (cl 0) (cl 0) (cl n) j = f j := by
  show (if 0 ≤ j ∧ j < 0 + cl n then f (0 + (j - 0)) else h j) = f j
  rw [if_pos ⟨Nat.zero_le _, by omega⟩]
  congr 1
  omega
theorem sw_out0_2 {x : Int32} (h0 : ¬ x = 0) (h1 : ¬ x = 1) (h2 : ¬ x = 2) : x.toInt < 0 ∨ 2 < x.toInt := by
  simp only [← Int32.toInt_inj] at h0 h1 h2
  have e := fun n : Nat => n
  rw [show (0 : Int32).toInt = 0 from rfl] at h0
  rw [show (1 : Int32).toInt = 1 from rfl] at h1
  rw [show (2 : Int32).toInt = 2 from rfl] at h2
  omega
theorem sw_out1_5 {x : Int32} (h1 : ¬ x = 1) (h2 : ¬ x = 2) (h3 : ¬ x = 3) (h4 : ¬ x = 4) (h5 : ¬ x = 5) : x.toInt < 1 ∨ 5 < x.toInt := by
  simp only [← Int32.toInt_inj] at h1 h2 h3 h4 h5
  have e := fun n : Nat => n
  rw [show (1 : Int32).toInt = 1 from rfl] at h1
  rw [show (2 : Int32).toInt = 2 from rfl] at h2
  rw [show (3 : Int32).toInt = 3 from rfl] at h3
  rw [show (4 : Int32).toInt = 4 from rfl] at h4
  rw [show (5 : Int32).toInt = 5 from rfl] at h5
  omega
theorem sw_out0_5 {x : Int32} (h0 : ¬ x = 0) (h1 : ¬ x = 1) (h2 : ¬ x = 2) (h3 : ¬ x = 3) (h4 : ¬ x = 4) (h5 : ¬ x = 5) : x.toInt < 0 ∨ 5 < x.toInt := by
  simp only [← Int32.toInt_inj] at h0 h1 h2 h3 h4 h5
  have e := fun n : Nat => n
  rw [show (0 : Int32).toInt = 0 from rfl] at h0
  rw [show (1 : Int32).toInt = 1 from rfl] at h1
  rw [show (2 : Int32).toInt = 2 from rfl] at h2
  rw [show (3 : Int32).toInt = 3 from rfl] at h3
  rw [show (4 : Int32).toInt = 4 from rfl] at h4
  rw [show (5 : Int32).toInt = 5 from rfl] at h5
  omega
theorem sw_out0_6 {x : Int32} (h0 : ¬ x = 0) (h1 : ¬ x = 1) (h2 : ¬ x = 2) (h3 : ¬ x = 3) (h4 : ¬ x = 4) (h5 : ¬ x = 5) (h6 : ¬ x = 6) : x.toInt < 0 ∨ 6 < x.toInt := by
  simp only [← Int32.toInt_inj] at h0 h1 h2 h3 h4 h5 h6
  have e := fun n : Nat => n
  rw [show (0 : Int32).toInt = 0 from rfl] at h0
  rw [show (1 : Int32).toInt = 1 from rfl] at h1
  rw [show (2 : Int32).toInt = 2 from rfl] at h2
  rw [show (3 : Int32).toInt = 3 from rfl] at h3
  rw [show (4 : Int32).toInt = 4 from rfl] at h4
  rw [show (5 : Int32).toInt = 5 from rfl] at h5
  rw [show (6 : Int32).toInt = 6 from rfl] at h6
  omega
theorem sw_out0_9 {x : Int32} (h0 : ¬ x = 0) (h1 : ¬ x = 1) (h2 : ¬ x = 2) (h3 : ¬ x = 3) (h4 : ¬ x = 4) (h5 : ¬ x = 5) (h6 : ¬ x = 6) (h7 : ¬ x = 7) (h8 : ¬ x = 8) (h9 : ¬ x = 9) : x.toInt < 0 ∨ 9 < x.toInt := by
  simp only [← Int32.toInt_inj] at h0 h1 h2 h3 h4 h5 h6 h7 h8 h9
  have e := fun n : Nat => n
  rw [show (0 : Int32).toInt = 0 from rfl] at h0
  rw [show (1 : Int32).toInt = 1 from rfl] at h1
  rw [show (2 : Int32).toInt = 2 from rfl] at h2
  rw [show (3 : Int32).toInt = 3 from rfl] at h3
  rw [show (4 : Int32).toInt = 4 from rfl] at h4
  rw [show (5 : Int32).toInt = 5 from rfl] at h5
  rw [show (6 : Int32).toInt = 6 from rfl] at h6
  rw [show (7 : Int32).toInt = 7 from rfl] at h7
  rw [show (8 : Int32).toInt = 8 from rfl] at h8
  rw [show (9 : Int32).toInt = 9 from rfl] at h9
  omega
