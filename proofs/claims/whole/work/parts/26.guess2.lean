theorem yFact2_bd {r : Nat → Int32} {i : Int32} (h : Wf r) (hi : yNut r i = true) : bd (yFact r i 2) 0 9 := by
  have e : yFact r i 2 = r (21 + cl i) := by unfold yFact; rw [if_pos hi]; rfl
  rw [e]; exact (h.2.2.2.2.1 _ (yNut_cl h hi)).2.2.1
/-- how many of those before are alike, the candidate itself counted; the most -/
def alF (ans : Nat → Int32) (cand : Int32) (n : Nat) : Int32 := 1 + cntB (fun j => hasB cand (nI j) && decide (ans j = ans n)) n
def moF (ans : Nat → Int32) (cand : Int32) : Nat → Int32
  | 0 => 0
  | n + 1 => if hasB cand (nI n) = true then (if moF ans cand n < alF ans cand n then alF ans cand n else moF ans cand n) else moF ans cand n
theorem moF_t {ans : Nat → Int32} {cand : Int32} {n : Nat} (h : hasB cand (nI n) = true) : moF ans cand (n + 1) = (if moF ans cand n < alF ans cand n then alF ans cand n else moF ans cand n) := by
  show (if _ then _ else _) = _
  rw [if_pos h]
theorem moF_f {ans : Nat → Int32} {cand : Int32} {n : Nat} (h : hasB cand (nI n) = false) : moF ans cand (n + 1) = moF ans cand n := by
  show (if _ then _ else _) = _
  rw [if_neg (by rw [h]; decide)]
theorem al_eq {ux ans : Nat → Int32} {cand : Int32} {n S : Nat} (h : ∀ v, cntB (fun z => decide (ux z = v)) S = cntB (fun j => hasB cand (nI j) && decide (ans j = v)) n) : 1 + cntB (fun z => decide (ux z = ans n)) S = alF ans cand n := by
  unfold alF; rw [h]
theorem cntB_congr {p q : Nat → Bool} : ∀ {n : Nat}, (∀ j, j < n → p j = q j) → cntB p n = cntB q n
  | 0, _ => rfl
  | n + 1, h => by
    show (if _ then _ else _) = (if _ then _ else _)
    rw [h n (by omega), cntB_congr (fun j hj => h j (by omega))]
theorem inv_f {ux ans : Nat → Int32} {cand : Int32} {n S : Nat} (h : ∀ v, cntB (fun z => decide (ux z = v)) S = cntB (fun j => hasB cand (nI j) && decide (ans j = v)) n) (hf : hasB cand (nI n) = false) : ∀ v, cntB (fun z => decide (ux z = v)) S = cntB (fun j => hasB cand (nI j) && decide (ans j = v)) (n + 1) := by
  intro v
  rw [h v]
  exact cntB_f (p := fun j => hasB cand (nI j) && decide (ans j = v)) (by simp [hf])
theorem inv_t {ux ans : Nat → Int32} {cand : Int32} {n S : Nat} (h : ∀ v, cntB (fun z => decide (ux z = v)) S = cntB (fun j => hasB cand (nI j) && decide (ans j = v)) n) (ht : hasB cand (nI n) = true) : ∀ v, cntB (fun z => decide (upd ux S (ans n) z = v)) (S + 1) = cntB (fun j => hasB cand (nI j) && decide (ans j = v)) (n + 1) := by
  intro v
  have e : cntB (fun z => decide (upd ux S (ans n) z = v)) S = cntB (fun z => decide (ux z = v)) S := cntB_congr fun j hj => by rw [upd_ne (by omega)]
  show (if _ then _ else _) = (if _ then _ else _)
  rw [e, h v]
  simp only [upd_eq, ht, Bool.true_and]
