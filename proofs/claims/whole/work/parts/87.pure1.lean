/-! ===== fights: the class's and the reference's are one ===== -/
theorem fgc_can {b : Bool} {i j : Int32} {n : Nat} {r : Nat → Int32} : fgc b i j n r = yCan r i j := by
  unfold fgc
  split
  · cases h : yCan r i j with
    | true => exact yCan_sym h
    | false =>
      cases h2 : yCan r j i with
      | false => rfl
      | true => rw [yCan_sym h2] at h; exact absurd h (by decide)
  · rfl
theorem Lv.fgsL {r q : Nat → Int32} (h : Lv r q) (hw : Wf r) {b : Bool} {i j : Int32} {n : Nat} (hi : yNut r i = true) (hj : yNut r j = true) : Lv (fgs b i j n r) (fgs b i j n q) := by
  unfold fgs
  split
  · exact h.stkL hw hj hi
  · exact h.stkL hw hi hj
theorem Lv.fgtL {b : Bool} {i j : Int32} : ∀ {m n : Nat} {r q : Nat → Int32}, Lv r q → Wf r → (fgt b i j m n r).1 = (fgt b i j m n q).1 ∧ Lv (fgt b i j m n r).2 (fgt b i j m n q).2
  | 0, _, _, _, h, _ => ⟨rfl, h⟩
  | m + 1, n, r, q, h, hw => by
    unfold fgt
    rw [fgc_can, fgc_can, ← h.can]
    by_cases hc : yCan r i j = true
    · rw [if_pos hc, if_pos hc]
      have hs := h.fgsL (b := b) (n := n) hw (yCan_nut hc).1 (yCan_nut hc).2
      rw [← hs.brk i, ← hs.brk j]
      by_cases hb : yBrk (fgs b i j n r) i = true ∨ yBrk (fgs b i j n r) j = true
      · rw [if_pos hb, if_pos hb]; exact ⟨rfl, hs⟩
      · rw [if_neg hb, if_neg hb]; exact Lv.fgtL hs (Wf_fgsM hw hc)
    · rw [if_neg hc, if_neg hc]; exact ⟨rfl, h⟩
theorem stk_9 {r : Nat → Int32} {i j : Int32} {k : Nat} (hk : k < 33) (h0 : ¬ k = 0) : stk r i j k = r k := by
  have a : stk3 r i j k = r k := by unfold stk3; rw [upd_ne (by omega), upd_ne (by omega), upd_ne (by omega)]
  unfold stk
  split
  · split
    · exact a
    · unfold scF; rw [upd_ne (by omega)]; exact a
  · split
    · unfold scF; rw [upd_ne (by omega)]; exact a
    · exact a
theorem fgs_9 {b : Bool} {r : Nat → Int32} {i j : Int32} {n k : Nat} (hk : k < 33) (h0 : ¬ k = 0) : fgs b i j n r k = r k := by
  unfold fgs
  split
  · exact stk_9 hk h0
  · exact stk_9 hk h0
theorem fgs_nut {b : Bool} {r : Nat → Int32} {i j k : Int32} {n : Nat} : yNut (fgs b i j n r) k = yNut r k := by unfold yNut; rw [fgs_9 (by omega) (by omega)]
theorem brk_m {r : Nat → Int32} {i : Int32} (h : yNut r i = true) : yBrk r i = mBrk r i := by unfold yBrk mBrk; rw [h, Bool.true_and]
theorem whl_m {r : Nat → Int32} {i : Int32} (h : yNut r i = true) : yWhl r i = !mBrk r i := by
  unfold yWhl mBrk
  rw [h, Bool.true_and]
  simp only [← decide_not, Int32.not_le]
theorem can_go {b : Bool} {r : Nat → Int32} {i j : Int32} {n : Nat} (hw : Wf r) (hc : yCan r i j = true) (hi : mBrk (fgs b i j n r) i = false) (hj : mBrk (fgs b i j n r) j = false) : yCan (fgs b i j n r) i j = true := by
  have hni := (yCan_nut hc).1
  have hnj := (yCan_nut hc).2
  have ci := yNut_cl hw hni
  have cj := yNut_cl hw hnj
  rw [yCan_m] at hc ⊢
  rw [fgs_nut, fgs_nut, fgs_9 (by omega) (by omega), fgs_9 (by omega) (by omega), hi, hj]
  simp only [Bool.and_eq_true] at hc ⊢
  exact ⟨⟨hc.1.1, rfl⟩, rfl⟩
theorem can_m {r : Nat → Int32} {i j : Int32} (hc : yCan r i j = true) : mBrk r i = false ∧ mBrk r j = false := by
  rw [yCan_m] at hc
  simp only [Bool.and_eq_true, Bool.not_eq_true'] at hc
  exact ⟨hc.1.2, hc.2⟩
theorem can_no {r : Nat → Int32} {i j : Int32} (h : mBrk r i = true ∨ mBrk r j = true) : yCan r i j = false := by
  cases hc : yCan r i j with
  | false => rfl
  | true =>
    have := can_m hc
    rcases h with h | h
    · rw [this.1] at h; exact absurd h (by decide)
    · rw [this.2] at h; exact absurd h (by decide)
theorem btF_out {b : Bool} {i j : Int32} {m n : Nat} {r : Nat → Int32} (h : yCan r i j = false) : btF b i j m n r = (n, r) := by
  cases m with
  | zero => rfl
  | succ m => exact if_neg (by rw [h]; decide)
/-- one fight -/
theorem fb_eq {b : Bool} {i j : Int32} : ∀ {m n : Nat} {r : Nat → Int32}, Wf r → yCan r i j = true → (fgt b i j m n r).2 = (btF b i j m n r).2 ∧ (fgt b i j m n r).1 = btX (btF b i j m n r) i j
  | 0, n, r, _, hc => by
    have := can_m hc
    refine ⟨rfl, ?_⟩
    show -1 = (if mBrk r i = true ∨ mBrk r j = true then nI n else -1)
    rw [if_neg (by rw [this.1, this.2]; decide)]
  | m + 1, n, r, hw, hc => by
    have hni : yNut (fgs b i j n r) i = true := fgs_nut.trans (yCan_nut hc).1
    have hnj : yNut (fgs b i j n r) j = true := fgs_nut.trans (yCan_nut hc).2
    unfold fgt btF
    rw [fgc_can, if_pos hc, if_pos hc, brk_m hni, brk_m hnj]
    by_cases hb : mBrk (fgs b i j n r) i = true ∨ mBrk (fgs b i j n r) j = true
    · rw [if_pos hb, btF_out (can_no hb)]
      refine ⟨rfl, ?_⟩
      show nI (n + 1) = (if mBrk (fgs b i j n r) i = true ∨ mBrk (fgs b i j n r) j = true then nI (n + 1) else -1)
      rw [if_pos hb]
    · rw [if_neg hb]
      have h1 : mBrk (fgs b i j n r) i = false := by cases h : mBrk (fgs b i j n r) i with | false => rfl | true => exact absurd (Or.inl h) hb
      have h2 : mBrk (fgs b i j n r) j = false := by cases h : mBrk (fgs b i j n r) j with | false => rfl | true => exact absurd (Or.inr h) hb
      exact fb_eq (Wf_fgsM hw hc) (can_go hw hc h1 h2)
theorem fgt_out {b : Bool} {i j : Int32} {m n : Nat} {r : Nat → Int32} (h : yCan r i j = false) : fgt b i j m n r = (-1, r) := by
  cases m with
  | zero => rfl
  | succ m =>
    unfold fgt
    rw [fgc_can, if_neg (by rw [h]; decide)]
theorem left_m {r : Nat → Int32} {i j : Int32} (hi : yNut r i = true) (hj : yNut r j = true) : yLeft r i j = mLeft r i j := by
  unfold yLeft mLeft
  rw [brk_m hi, brk_m hj, whl_m hi, whl_m hj]
  cases mBrk r i <;> cases mBrk r j <;> rfl
theorem Lv.left {r q : Nat → Int32} (h : Lv r q) (i j : Int32) : yLeft r i j = yLeft q i j := by
  unfold yLeft
  rw [h.whl i, h.whl j, h.brk i, h.brk j]
theorem btF_9 {b : Bool} {i j : Int32} {k : Nat} (hk : k < 33) (h0 : ¬ k = 0) : ∀ {m n : Nat} {r : Nat → Int32}, (btF b i j m n r).2 k = r k
  | 0, _, _ => rfl
  | m + 1, n, r => by
    unfold btF
    split
    · rw [btF_9 hk h0, fgs_9 hk h0]
    · rfl
theorem fgt_9 {b : Bool} {i j : Int32} {k : Nat} (hk : k < 33) (h0 : ¬ k = 0) : ∀ {m n : Nat} {r : Nat → Int32}, (fgt b i j m n r).2 k = r k
  | 0, _, _ => rfl
  | m + 1, n, r => by
    unfold fgt
    split
    · split
      · exact fgs_9 hk h0
      · rw [fgt_9 hk h0, fgs_9 hk h0]
    · rfl
theorem btF_nut {b : Bool} {i j k : Int32} {m n : Nat} {r : Nat → Int32} : yNut (btF b i j m n r).2 k = yNut r k := by unfold yNut; rw [btF_9 (by omega) (by omega)]
theorem fgt_nut {b : Bool} {i j k : Int32} {m n : Nat} {r : Nat → Int32} : yNut (fgt b i j m n r).2 k = yNut r k := by unfold yNut; rw [fgt_9 (by omega) (by omega)]
theorem Lv.factL {r q : Nat → Int32} (h : Lv r q) (hw : Wf r) (i w : Int32) : yFact r i w = yFact q i w := by
  unfold yFact
  rw [← h.nut i]
  by_cases hi : yNut r i = true
  · rw [if_pos hi, if_pos hi]
    have a := h.at hi
    rw [← a.1, ← a.2.1, ← a.2.2.1, ← a.2.2.2.1, ← a.2.2.2.2.1, ← a.2.2.2.2.2, ← h.next, ← h.foL hw hi, ← h.2.2.1, show (fun j => yCan q i (nI j)) = fun j => yCan r i (nI j) from funext fun j => (h.can i (nI j)).symm]
  · rw [if_neg hi, if_neg hi]
/-- answers of one bout -/
theorem last_eq {b : Bool} {r q : Nat → Int32} {i j w : Int32} (h : Lv r q) (hw : Wf r) (hq : Wf q) (hi : yNut r i = true) (hj : yNut r j = true) : ldC (fgt b i j 60 0 r) i j w = if yCan q i j = true then (if btX (btF b i j 60 0 q) i j = -1 then -1 else if w = 0 then btX (btF b i j 60 0 q) i j else mLeft (btF b i j 60 0 q).2 i j) else -1 := by
  have hf := Lv.fgtL (b := b) (i := i) (j := j) (m := 60) (n := 0) h hw
  by_cases hc : yCan q i j = true
  · have he := fb_eq (b := b) (m := 60) (n := 0) hq hc
    have hl : yLeft (fgt b i j 60 0 r).2 i j = mLeft (btF b i j 60 0 q).2 i j := by
      rw [hf.2.left, he.1, left_m (by rw [btF_nut, ← h.nut]; exact hi) (by rw [btF_nut, ← h.nut]; exact hj)]
    unfold ldC
    rw [if_pos hc, hl, hf.1, he.2]
    by_cases h1 : btX (btF b i j 60 0 q) i j = -1
    · rw [if_pos h1]
      split
      · exact h1
      · exact h1
    · rw [if_neg h1, if_neg h1]
  · rw [if_neg hc, fgt_out (by rw [h.can]; exact Bool.eq_false_iff.mpr hc)]
    unfold ldC
    split
    · rfl
    · exact if_pos rfl
theorem ended_eq {r q : Nat → Int32} {i j w : Int32} (h : Lv r q) (hw : Wf r) (hq : Wf q) (hi : yNut r i = true) (hj : yNut r j = true) (hw1 : w = 0 ∨ w = 1) : ldC (fgt false i j 60 0 r) i j w = if yCan q i j = true then enM (btF false i j 60 0 q) i j w else -1 := by
  rw [last_eq h hw hq hi hj]
  unfold enM
  rcases hw1 with rfl | rfl
  · rfl
  · rfl
theorem bout_eq {r q : Nat → Int32} {i j w : Int32} (h : Lv r q) (hw : Wf r) (hq : Wf q) (hi : yNut r i = true) (hj : yNut r j = true) : bdC (fgt true i j 60 0 r) i j w = if yCan q i j = true then enM (btF true i j 60 0 q) i j w else -1 := by
  have hf := Lv.fgtL (b := true) (i := i) (j := j) (m := 60) (n := 0) h hw
  by_cases hc : yCan q i j = true
  · have he := fb_eq (b := true) (m := 60) (n := 0) hq hc
    have hl : yLeft (fgt true i j 60 0 r).2 i j = mLeft (btF true i j 60 0 q).2 i j := by
      rw [hf.2.left, he.1, left_m (by rw [btF_nut, ← h.nut]; exact hi) (by rw [btF_nut, ← h.nut]; exact hj)]
    unfold bdC enM
    rw [if_pos hc, hl, hf.1, he.2]
    by_cases h1 : btX (btF true i j 60 0 q) i j = -1
    · rw [if_pos h1, if_pos h1]
      split
      · exact h1
      · exact h1
    · rw [if_neg h1, if_neg h1]
      by_cases h0 : w = 0
      · rw [if_pos h0, if_pos h0]
      · rw [if_neg h0, if_neg h0]
        by_cases h2 : w = 1
        · rw [if_pos h2, if_pos h2]
        · rw [if_neg h2, if_neg h2]
          by_cases h3 : mLeft (btF true i j 60 0 q).2 i j = -1
          · rw [if_pos h3, if_pos h3]; exact h3
          · rw [if_neg h3, if_neg h3, hf.2.factL (Wf_fgt hw), he.1]
            have hn : yNut (btF true i j 60 0 q).2 (mLeft (btF true i j 60 0 q).2 i j) = true := by
              rw [btF_nut, ← h.nut]
              unfold mLeft at h3 ⊢
              split at h3
              · exact absurd rfl h3
              · rename_i h4
                rw [if_neg h4]
                split
                · exact hj
                · exact hi
            exact yFact_k (k := 5) hn (by decide)
  · rw [if_neg hc, fgt_out (by rw [h.can]; exact Bool.eq_false_iff.mpr hc)]
    unfold bdC
    split
    · rfl
    · exact if_pos rfl
