/-! ===== firm, days, digest ===== -/
theorem find_ext {p q : Nat → Bool} : ∀ l : List Nat, (∀ x ∈ l, p x = q x) → l.find? p = l.find? q
  | [], _ => rfl
  | x :: l, h => by
    rw [List.find?_cons, List.find?_cons, h x List.mem_cons_self, find_ext l (fun y hy => h y (List.mem_cons_of_mem _ hy))]
theorem fstN_ext {p q : Nat → Bool} {n : Nat} (h : ∀ k, k < n → p k = q k) : fstN p n = fstN q n := by
  unfold fstN
  rw [find_ext (List.range n) (fun x hx => h x (List.mem_range.mp hx))]
theorem btF_n {b : Bool} {i j : Int32} : ∀ {m n : Nat} {r : Nat → Int32}, (btF b i j m n r).1 ≤ n + m
  | 0, _, _ => Nat.le_refl _
  | m + 1, n, r => by
    unfold btF
    split
    · have := btF_n (b := b) (i := i) (j := j) (m := m) (n := n + 1) (r := fgs b i j n r)
      omega
    · exact Nat.le_add_right _ _
theorem can_21 {q : Nat → Int32} {i j v : Int32} {k : Nat} (hk : k < 6) (hi : cl i < 6) (hj : cl j < 6) : yCan (upd q (21 + k) v) i j = yCan q i j := by
  unfold yCan yNut
  rw [upd_ne (by omega), upd_ne (by omega), upd_ne (by omega), upd_ne (by omega), upd_ne (by omega)]
theorem mleft_i {z : Nat → Int32} {i j : Int32} (h : mLeft z i j = i) (h0 : ¬ i = -1) : mBrk z i = true ∨ mBrk z j = true := by
  unfold mLeft at h
  cases hi : mBrk z i with
  | true => exact Or.inl rfl
  | false =>
    cases hj : mBrk z j with
    | true => exact Or.inr rfl
    | false => rw [hi, hj, if_pos rfl] at h; exact absurd h.symm h0
theorem nut_m1 {r : Nat → Int32} {i : Int32} (h : yNut r i = true) : ¬ i = -1 := by
  intro e
  rw [yNut_ti, e] at h
  exact absurd h.1 (by decide)
theorem lh_eq {r q : Nat → Int32} {i j : Int32} {k : Nat} (h : Lv r q) (hw : Wf r) (hq : Wf q) (hc : yCan q i j = true) (hk : k < 10) : lhB r i j k = lhM q i j k := by
  have hiq := (yCan_nut hc).1
  have hjq := (yCan_nut hc).2
  have hi : yNut r i = true := (h.nut i).trans hiq
  have hj : yNut r j = true := (h.nut j).trans hjq
  have ci := yNut_cl hw hi
  have cj := yNut_cl hw hj
  have hb : bd (nI k) 0 9 := by unfold bd; rw [nI_ti (by omega)]; omega
  have hL : Lv (upd r (21 + cl i) (nI k)) (upd q (21 + cl i) (nI k)) := h.updL (by omega) (by omega) _
  have hw2 := Wf_hd hw ci hb
  have hq2 := Wf_hd hq ci hb
  have hc2 : yCan (upd q (21 + cl i) (nI k)) i j = true := by rw [can_21 ci ci cj]; exact hc
  have hf := Lv.fgtL (b := true) (i := i) (j := j) (m := 60) (n := 0) hL hw2
  have he := fb_eq (b := true) (m := 60) (n := 0) hq2 hc2
  have hn := btF_n (b := true) (i := i) (j := j) (m := 60) (n := 0) (r := upd q (21 + cl i) (nI k))
  have hl : yLeft (fgt true i j 60 0 (upd r (21 + cl i) (nI k))).2 i j = mLeft (btF true i j 60 0 (upd q (21 + cl i) (nI k))).2 i j := by
    rw [hf.2.left, he.1, left_m (by rw [btF_nut]; exact (yCan_nut hc2).1) (by rw [btF_nut]; exact (yCan_nut hc2).2)]
  unfold lhB lhM mkh
  rw [if_pos hi, hl, hf.1, he.2]
  by_cases h1 : mLeft (btF true i j 60 0 (upd q (21 + cl i) (nI k))).2 i j = i
  · have hb2 := mleft_i h1 (nut_m1 hi)
    have hx : btX (btF true i j 60 0 (upd q (21 + cl i) (nI k))) i j = nI (btF true i j 60 0 (upd q (21 + cl i) (nI k))).1 := if_pos hb2
    rw [hx, decide_eq_true (nI_ne1 (by omega)), Bool.true_and]
  · rw [decide_eq_false h1, Bool.and_false]
theorem firm_eq {r q : Nat → Int32} {i j : Int32} (h : Lv r q) (hw : Wf r) (hq : Wf q) (hi : yNut r i = true) (hj : yNut r j = true) : fstN (lhB r i j) 10 = if yCan q i j = true then fstN (lhM q i j) 10 else -1 := by
  by_cases hc : yCan q i j = true
  · rw [if_pos hc]
    exact fstN_ext fun k hk => lh_eq h hw hq hc hk
  · rw [if_neg hc]
    refine fst_none fun k hk => ?_
    have ci := yNut_cl hw hi
    have cj := yNut_cl hw hj
    have hn : yCan (upd r (21 + cl i) (nI k)) i j = false := by rw [can_21 ci ci cj, h.can]; exact Bool.eq_false_iff.mpr hc
    unfold lhB mkh
    rw [if_pos hi, fgt_out hn]
    rfl
theorem Lv.pasL {r q : Nat → Int32} (h : Lv r q) : Lv (pasF r) (pasF q) := by
  unfold pasF
  rw [← h.1]
  exact h.updL (by omega) (by omega) _
theorem days_eq {r q : Nat → Int32} {x : Int32} (h : Lv r q) (hw : Wf r) (hq : Wf q) : ∀ n, (dyF r x n).1 = (dyM q x n).1 ∧ Lv (dyF r x n).2 (dyM q x n).2
  | 0 => ⟨rfl, h⟩
  | n + 1 => by
    obtain ⟨h1, h2⟩ := days_eq h hw hq n
    have hwn := Wf_dyF (x := x) hw n
    have hqn := Wf_dyM (x := x) hq n
    refine ⟨?_, ?_⟩
    · show lcg _ = lcg _
      rw [h1]
    · show Lv (dyS _ _) (dySM _ _)
      unfold dyS dySM
      rw [h1, h2.can, pasM_eq hqn]
      split
      · rename_i hc
        exact h2.stkL hwn ((h2.nut _).trans (yCan_nut hc).1) ((h2.nut _).trans (yCan_nut hc).2)
      · exact h2.pasL
theorem days_ans {r q : Nat → Int32} {x : Int32} {n : Nat} (h : Lv r q) (hw : Wf r) (hq : Wf q) : bcF (setB (fun j => yBrk (dyF r x n).2 (nI j)) (cl ((dyF r x n).2 2))) = bcF (setB (fun j => mBrk (dyM q x n).2 (nI j)) (cl ((dyM q x n).2 2))) := by
  obtain ⟨-, h2⟩ := days_eq (x := x) h hw hq n
  have hwn := Wf_dyF (x := x) hw n
  rw [← h2.2.2.1, setB_ext (p := fun j => yBrk (dyF r x n).2 (nI j)) (q := fun j => mBrk (dyM q x n).2 (nI j)) _ fun j hj => by rw [brk_m (nut_of hwn hj), h2.mbrk (nut_of hwn hj)]]
/-- digests -/
theorem dgK_ext {f h : Nat → Int32} {x : Int64} : ∀ n, (∀ j, j < n → f j = h j) → dgK f x n = dgK h x n
  | 0, _ => rfl
  | n + 1, e => by
    have ih := dgK_ext (x := x) n (fun j hj => e j (by omega))
    unfold dgK
    rw [ih, e n (Nat.lt_succ_self n)]
theorem dgK_add {f : Nat → Int32} {x : Int64} {a : Nat} : ∀ b, dgK f x (a + b) = dgK (fun z => f (a + z)) (dgK f x a) b
  | 0 => rfl
  | b + 1 => by
    show 31 * dgK f x (a + b) + _ = 31 * dgK (fun z => f (a + z)) (dgK f x a) b + _
    rw [dgK_add b]
    rfl
theorem dgP_ext {r q : Nat → Int32} {x : Int64} : ∀ n, (∀ j, j < n → r (3 + j) = q (3 + j) ∧ r (6 + j) = q (6 + j)) → dgP r x n = dgP q x n
  | 0, _ => rfl
  | n + 1, e => by
    have ih := dgP_ext (x := x) n (fun j hj => e j (by omega))
    unfold dgP
    rw [ih, (e n (Nat.lt_succ_self n)).1, (e n (Nat.lt_succ_self n)).2]
theorem dgN_ext {r q : Nat → Int32} {x : Int64} : ∀ n, (∀ j, j < n → ∀ z, z < 6 → r (9 + 6 * z + j) = q (9 + 6 * z + j)) → dgN r x n = dgN q x n
  | 0, _ => rfl
  | n + 1, e => by
    have ih := dgN_ext (x := x) n (fun j hj => e j (by omega))
    unfold dgN
    rw [ih, dgK_ext (f := fun z => r (9 + 6 * z + n)) (h := fun z => q (9 + 6 * z + n)) 6 (fun z hz => e n (Nat.lt_succ_self n) z hz)]
theorem dgR_eq {f tl : Nat → Int32} {x : Int64} {B w : Nat} : ∀ n, (∀ j, j < n → ∀ z, z < w → f (6 * j + z) = tl (B + w * j + z)) → dgR f w x n = dgK (fun k => tl (B + k)) x (w * n)
  | 0, _ => rfl
  | n + 1, e => by
    have ih := dgR_eq (f := f) (tl := tl) (x := x) (B := B) (w := w) n (fun j hj => e j (by omega))
    unfold dgR
    rw [ih, Nat.mul_succ, dgK_add, dgK_ext (f := fun z => f (6 * n + z)) (h := fun z => tl (B + (w * n + z))) w (fun z hz => by rw [e n (Nat.lt_succ_self n) z hz, Nat.add_assoc])]
/-- what was told, in both forms -/
def Tld (N1 N2 N3 : Nat) (f1 f2 f3 tl : Nat → Int32) : Prop := tl 0 = nI N1 ∧ tl 26 = nI N2 ∧ tl 63 = nI N3 ∧ N1 ≤ 5 ∧ N2 ≤ 6 ∧ N3 ≤ 6 ∧ (∀ j, j < N1 → ∀ z, z < 5 → f1 (6 * j + z) = tl (1 + 5 * j + z)) ∧ (∀ j, j < N2 → ∀ z, z < 6 → f2 (6 * j + z) = tl (27 + 6 * j + z)) ∧ (∀ j, j < N3 → ∀ z, z < 5 → f3 (6 * j + z) = tl (64 + 5 * j + z)) ∧ (∀ n, n < N1 → bd (f1 (6 * n + 3)) 0 44) ∧ ∀ n, n < N2 → bd (f2 (6 * n + 1)) 0 9 ∧ bd (f2 (6 * n + 4)) 0 44
theorem dig_eq {r q tl f1 f2 f3 : Nat → Int32} {N N1 N2 N3 tN um lm : Nat} {ab be : Int64} (h : Lv r q) (hw : Wf r) (hN : N = um) (ht : tN = lm) (hT : Tld N1 N2 N3 f1 f2 f3 tl) :
    31 * (31 * (dgR f3 5 (dgR f2 6 (dgR f1 5 (dgN r (dgP r (dgK (fun w => cnC r N N1 N2 N3 tN (nI w)) 1823 11) (cl (r 1))) (cl (r 2))) N1) N2) N3) + ab) + be = 31 * (31 * h6M q tl um lm N1 N2 N3 + ab) + be := by
  obtain ⟨t1, t2, t3, -, -, -, t4, t5, t6, -, -⟩ := hT
  have hn6 := cl_n6 hw
  have hn3 := cl_n3 hw
  have e1 : dgK (fun w => cnC r N N1 N2 N3 tN (nI w)) 1823 11 = h1M q tl um lm := dgK_ext _ fun j _ => cnt_eq h hw hN t1 t2 t3 ht
  have e2 : dgP r (h1M q tl um lm) (cl (r 1)) = h2M q tl um lm := by
    unfold h2M
    rw [← h.2.1]
    exact dgP_ext _ fun j hj => h.2.2.2.1 j (by omega)
  have e3 : dgN r (h2M q tl um lm) (cl (r 2)) = h3M q tl um lm := by
    unfold h3M
    rw [← h.2.2.1]
    refine dgN_ext _ fun j hj z hz => ?_
    have a := h.2.2.2.2 j (by omega)
    match z, hz with
    | 0, _ => exact a.1
    | 1, _ => exact a.2.1
    | 2, _ => exact a.2.2.1
    | 3, _ => exact a.2.2.2.1
    | 4, _ => exact a.2.2.2.2.1
    | 5, _ => exact a.2.2.2.2.2
  rw [e1, e2, e3, dgR_eq (tl := tl) (B := 1) N1 t4, dgR_eq (tl := tl) (B := 27) N2 t5, dgR_eq (tl := tl) (B := 64) N3 t6]
  rfl
