/-! ===== two rows that agree wherever something lives ===== -/
def Lv (r q : Nat → Int32) : Prop := r 0 = q 0 ∧ r 1 = q 1 ∧ r 2 = q 2 ∧ (∀ j : Nat, (j : Int) < (r 1).toInt → r (3 + j) = q (3 + j) ∧ r (6 + j) = q (6 + j)) ∧ ∀ j : Nat, (j : Int) < (r 2).toInt → r (9 + j) = q (9 + j) ∧ r (15 + j) = q (15 + j) ∧ r (21 + j) = q (21 + j) ∧ r (27 + j) = q (27 + j) ∧ r (33 + j) = q (33 + j) ∧ r (39 + j) = q (39 + j)
theorem Lv_rf (r : Nat → Int32) : Lv r r := ⟨rfl, rfl, rfl, fun _ _ => ⟨rfl, rfl⟩, fun _ _ => ⟨rfl, rfl, rfl, rfl, rfl, rfl⟩⟩
theorem nut_lt {r : Nat → Int32} {i : Int32} (h : yNut r i = true) : (cl i : Int) < (r 2).toInt := by
  rw [yNut_ti] at h
  have := cl_ti h.1
  omega
theorem pl_lt {r : Nat → Int32} {i : Int32} (h : yPl r i = true) : (cl i : Int) < (r 1).toInt := by
  rw [yPl_ti] at h
  have := cl_ti h.1
  omega
theorem Lv.nut {r q : Nat → Int32} (h : Lv r q) (i : Int32) : yNut r i = yNut q i := by unfold yNut; rw [h.2.2.1]
theorem Lv.pl {r q : Nat → Int32} (h : Lv r q) (i : Int32) : yPl r i = yPl q i := by unfold yPl; rw [h.2.1]
theorem Lv.next {r q : Nat → Int32} (h : Lv r q) : yNext r = yNext q := by unfold yNext; rw [h.1]
theorem Lv.at {r q : Nat → Int32} (h : Lv r q) {i : Int32} (hi : yNut r i = true) : r (9 + cl i) = q (9 + cl i) ∧ r (15 + cl i) = q (15 + cl i) ∧ r (21 + cl i) = q (21 + cl i) ∧ r (27 + cl i) = q (27 + cl i) ∧ r (33 + cl i) = q (33 + cl i) ∧ r (39 + cl i) = q (39 + cl i) := h.2.2.2.2 (cl i) (nut_lt hi)
theorem Lv.pat {r q : Nat → Int32} (h : Lv r q) {i : Int32} (hi : yPl r i = true) : r (3 + cl i) = q (3 + cl i) ∧ r (6 + cl i) = q (6 + cl i) := h.2.2.2.1 (cl i) (pl_lt hi)
theorem Lv.brk {r q : Nat → Int32} (h : Lv r q) (i : Int32) : yBrk r i = yBrk q i := by
  unfold yBrk
  rw [← h.nut i]
  cases hn : yNut r i with
  | false => rw [Bool.false_and, Bool.false_and]
  | true => rw [(h.at hn).2.2.2.2.1]
theorem Lv.whl {r q : Nat → Int32} (h : Lv r q) (i : Int32) : yWhl r i = yWhl q i := by
  unfold yWhl
  rw [← h.nut i]
  cases hn : yNut r i with
  | false => rw [Bool.false_and, Bool.false_and]
  | true => rw [(h.at hn).2.2.2.2.1]
theorem Lv.mbrk {r q : Nat → Int32} (h : Lv r q) {i : Int32} (hi : yNut r i = true) : mBrk r i = mBrk q i := by unfold mBrk; rw [(h.at hi).2.2.2.2.1]
theorem Lv.wof {r q : Nat → Int32} (h : Lv r q) (i p : Int32) : yWof r i p = yWof q i p := by
  unfold yWof
  rw [← h.whl i]
  cases hn : yWhl r i with
  | false => rw [Bool.false_and, Bool.false_and]
  | true => rw [(h.at (yWhl_nut hn)).1]
theorem Lv.can {r q : Nat → Int32} (h : Lv r q) (i j : Int32) : yCan r i j = yCan q i j := by
  unfold yCan
  rw [← h.nut i, ← h.nut j]
  cases hi : yNut r i with
  | false => simp only [Bool.false_and]
  | true =>
    cases hj : yNut r j with
    | false => simp only [Bool.false_and, Bool.and_false]
    | true => rw [(h.at hi).1, (h.at hj).1, (h.at hi).2.2.2.2.1, (h.at hj).2.2.2.2.1]
theorem Lv.foL {r q : Nat → Int32} (h : Lv r q) (hw : Wf r) {i : Int32} (hi : yNut r i = true) (t : Int32) : fo r i t = fo q i t := by
  have a := h.at hi
  have b := h.pat (hw.own hi)
  unfold fo
  rw [← a.1, ← a.2.2.2.1, ← b.1, ← b.2]
theorem Lv.crkdL {r q : Nat → Int32} (h : Lv r q) {i : Int32} (hi : yNut r i = true) (f t : Int32) : crkd r i f t = crkd q i f t := by
  have a := h.at hi
  unfold crkd
  rw [← a.2.2.2.2.1, ← a.2.1, ← a.2.2.1]
theorem upd_both {r q : Nat → Int32} {k n : Nat} {v : Int32} (h : r n = q n) : upd r k v n = upd q k v n := by
  unfold upd
  split
  · rfl
  · exact h
theorem Lv.updL {r q : Nat → Int32} (h : Lv r q) {k : Nat} (h1 : ¬ 1 = k) (h2 : ¬ 2 = k) (v : Int32) : Lv (upd r k v) (upd q k v) := by
  refine ⟨upd_both h.1, upd_both h.2.1, upd_both h.2.2.1, fun j hj => ?_, fun j hj => ?_⟩
  · rw [upd_ne h1] at hj
    exact ⟨upd_both (h.2.2.2.1 j hj).1, upd_both (h.2.2.2.1 j hj).2⟩
  · rw [upd_ne h2] at hj
    have a := h.2.2.2.2 j hj
    exact ⟨upd_both a.1, upd_both a.2.1, upd_both a.2.2.1, upd_both a.2.2.2.1, upd_both a.2.2.2.2.1, upd_both a.2.2.2.2.2⟩
theorem Lv.stk3L {r q : Nat → Int32} (h : Lv r q) (hw : Wf r) {i j : Int32} (hi : yNut r i = true) (hj : yNut r j = true) : Lv (stk3 r i j) (stk3 q i j) := by
  unfold stk3
  rw [← h.next, ← h.foL hw hi, ← h.crkdL hi, ← h.crkdL hj]
  exact ((h.updL (by omega) (by omega) _).updL (by omega) (by omega) _).updL (by omega) (by omega) _
theorem stk_12 {r : Nat → Int32} {i j : Int32} : stk r i j 1 = r 1 ∧ stk r i j 2 = r 2 := by
  have a : stk3 r i j 1 = r 1 ∧ stk3 r i j 2 = r 2 := ⟨by unfold stk3; rw [upd_ne (by omega), upd_ne (by omega), upd_ne (by omega)], by unfold stk3; rw [upd_ne (by omega), upd_ne (by omega), upd_ne (by omega)]⟩
  unfold stk
  split
  · split
    · exact a
    · unfold scF; rw [upd_ne (by omega), upd_ne (by omega)]; exact a
  · split
    · unfold scF; rw [upd_ne (by omega), upd_ne (by omega)]; exact a
    · exact a
theorem stk_nut {r : Nat → Int32} {i j k : Int32} : yNut (stk r i j) k = yNut r k := by unfold yNut; rw [stk_12.2]
theorem Lv.scFL {r q : Nat → Int32} (h : Lv r q) {i j : Int32} (hi : yNut r i = true) (hj : yNut r j = true) : Lv (scF r i j) (scF q i j) := by
  unfold scF
  rw [← (h.at hi).2.2.2.2.2, ← (h.at hj).2.2.2.2.2]
  exact h.updL (by omega) (by omega) _
theorem Lv.stkL {r q : Nat → Int32} (h : Lv r q) (hw : Wf r) {i j : Int32} (hi : yNut r i = true) (hj : yNut r j = true) : Lv (stk r i j) (stk q i j) := by
  have h3 := h.stk3L hw hi hj
  have n3 : ∀ k, yNut (stk3 r i j) k = yNut r k := fun k => by unfold yNut stk3; rw [upd_ne (by omega), upd_ne (by omega), upd_ne (by omega)]
  have hi3 := (n3 i).trans hi
  have hj3 := (n3 j).trans hj
  unfold stk
  rw [← (h3.at hi3).2.2.2.2.1, ← (h3.at hj3).2.2.2.2.1]
  split
  · split
    · exact h3
    · exact h3.scFL hj3 hi3
  · split
    · exact h3.scFL hi3 hj3
    · exact h3
