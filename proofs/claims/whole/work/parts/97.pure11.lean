/-! ===== items ===== -/
theorem tk_w {tx : Nat → Int32} {w : M4} (h1 : ∀ k, w.2.1 ≤ k → k < w.1 → wth (tx k) 97 122 = true) (h2 : w.2.2.1 = if 6 < w.1 - w.2.1 then 0 else wdM tx w.2.1 (w.1 - w.2.1)) : 0 ≤ w.2.2.1.toInt := by
  rw [h2]
  split
  · decide
  · exact (wd_nn _ (by omega) (fun k hk => h1 _ (by omega) (by omega))).1
theorem ne_neg {x y : Int32} (h : 0 ≤ x.toInt) (hy : y.toInt < 0) : ¬ x = y := fun e => by rw [e] at h; omega
theorem tk_sort {tx : Nat → Int32} {N : Nat} {A : T5} {w : M4} (R : TkR tx N A w) : (decide (A.2.1 = 2) = (decide (w.2.2.1 = -2) && decide (w.1 - w.2.1 ≤ 2))) ∧ (decide (A.2.1 = 3) = decide (w.2.2.1 = -3)) ∧ (decide (A.2.1 = 0) = decide (w.2.2.1 = -1)) ∧ (A.2.1 = 2 → A.2.2.2.2 = nmV tx w) ∧ (¬ A.2.1 = 0 → A.2.2.2.1 = w.1 ∧ w.1 ≤ N) ∧ (fhT N A).1 = (flZ w).2.2.2 := by
  rcases R with ⟨s, t, e⟩ | ⟨a, b, c, d, ⟨s, l, t⟩ | ⟨s, t, l, e⟩ | ⟨s, t⟩ | ⟨s, t⟩⟩
  · refine ⟨by rw [s, t]; rfl, by rw [s, t]; rfl, by rw [s, t]; rfl, fun h => ?_, fun h => absurd s h, ?_⟩
    · rw [s] at h; exact absurd h (by decide)
    · show (if A.2.1 = 0 then nI N else nI A.2.2.1) = nI w.2.1
      rw [if_pos s, e]
  · have nn := tk_w l t
    refine ⟨by rw [s, decide_eq_false (ne_neg nn (y := -2) (by decide))]; rfl, by rw [s, decide_eq_false (ne_neg nn (y := -3) (by decide))]; rfl, by rw [s, decide_eq_false (ne_neg nn (y := -1) (by decide))]; rfl, fun h => ?_, fun _ => ⟨b, d⟩, ?_⟩
    · rw [s] at h; exact absurd h (by decide)
    · show (if A.2.1 = 0 then nI N else nI A.2.2.1) = nI w.2.1
      rw [if_neg (by rw [s]; decide), a]
  · refine ⟨by rw [s, t, decide_eq_true l]; rfl, by rw [s, t]; rfl, by rw [s, t]; rfl, fun _ => e, fun _ => ⟨b, d⟩, ?_⟩
    show (if A.2.1 = 0 then nI N else nI A.2.2.1) = nI w.2.1
    rw [if_neg (by rw [s]; decide), a]
  · refine ⟨by rw [s, t]; rfl, by rw [s, t]; rfl, by rw [s, t]; rfl, fun h => ?_, fun _ => ⟨b, d⟩, ?_⟩
    · rw [s] at h; exact absurd h (by decide)
    · show (if A.2.1 = 0 then nI N else nI A.2.2.1) = nI w.2.1
      rw [if_neg (by rw [s]; decide), a]
  · refine ⟨?_, ?_, ?_, fun h => ?_, fun _ => ⟨b, d⟩, ?_⟩
    · rcases t with t | ⟨t, l⟩
      · rw [s, t]; rfl
      · rw [s, t, decide_eq_false l]; rfl
    · rcases t with t | ⟨t, l⟩
      · rw [s, t]; rfl
      · rw [s, t]; rfl
    · rcases t with t | ⟨t, l⟩
      · rw [s, t]; rfl
      · rw [s, t]; rfl
    · rw [s] at h; exact absurd h (by decide)
    · show (if A.2.1 = 0 then nI N else nI A.2.2.1) = nI w.2.1
      rw [if_neg (by rw [s]; decide), a]
theorem word_eq {tx : Nat → Int32} {N i : Nat} {A : T5} {w : M4} (hi : i < 5) (R : TkR tx N A w) : spB tx N A.2.1 A.2.2.1 A.2.2.2.1 i = decide (w.2.2.1 = cdI i) := by
  obtain ⟨c1, c2, c3, c4, c5⟩ := cd_N i hi
  have ng : ∀ {x : Int32}, x.toInt ≤ 0 → ¬ x = cdI i := fun h e => by rw [e] at h; omega
  rcases R with ⟨s, t, e⟩ | ⟨a, b, c, d, ⟨s, l, t⟩ | ⟨s, t, l, e⟩ | ⟨s, t⟩ | ⟨s, t⟩⟩
  · unfold spB
    rw [s, t, decide_eq_false (ng (x := -1) (by decide))]; rfl
  · unfold spB
    rw [s, decide_eq_true rfl, Bool.true_and, a, b, t]
    by_cases h6 : 6 < w.1 - w.2.1
    · rw [if_pos h6, decide_eq_false (ng (x := 0) (by decide)), decide_eq_false (show ¬ w.1 - w.2.1 = swL.getD i 0 by omega)]; rfl
    · rw [if_neg h6]
      exact word_is hi (by omega) (fun k hk => l _ (by omega) (by omega))
  · unfold spB
    rw [s, t, decide_eq_false (ng (x := -2) (by decide))]; rfl
  · unfold spB
    rw [s, t, decide_eq_false (ng (x := -3) (by decide))]; rfl
  · unfold spB
    rcases t with t | ⟨t, l⟩
    · rw [s, t, decide_eq_false (ng (x := -4) (by decide))]; rfl
    · rw [s, t, decide_eq_false (ng (x := -2) (by decide))]; rfl
theorem nt_at {tx : Nat → Int32} {N : Nat} {T : T5} {z : M4} (h : T.2.2.2.1 = z.1) (hN : z.1 ≤ N) : TkR tx N (ntT tx N T) (nxZ tx N z) := (nt_rel (by rw [h]) hN).1
theorem tk_eq {tx : Nat → Int32} {N : Nat} {lo hi : Int32} {T : T5} {z : M4} (h : T.2.2.2.1 = z.1) (hN : z.1 ≤ N) : tkB tx N lo hi T = nmB tx N lo hi z ∧ (nmB tx N lo hi z = true → (ntT tx N T).2.2.2.2 = nmV tx (nxZ tx N z) ∧ (ntT tx N T).2.2.2.1 = (nxZ tx N z).1 ∧ (nxZ tx N z).1 ≤ N) := by
  obtain ⟨s2, s3, s0, sv, sb, sf⟩ := tk_sort (nt_at h hN)
  have hv : decide ((ntT tx N T).2.1 = 2) = true → (ntT tx N T).2.2.2.2 = nmV tx (nxZ tx N z) := fun e => sv (of_decide_eq_true e)
  refine ⟨?_, fun e => ?_⟩
  · unfold tkB nmB
    rw [← s2]
    cases e : decide ((ntT tx N T).2.1 = 2) with
    | false => rw [Bool.false_and, Bool.false_and]
    | true => rw [hv e]
  · unfold nmB at e
    rw [← s2, Bool.and_eq_true] at e
    have e2 := of_decide_eq_true e.1
    exact ⟨sv e2, sb (by rw [e2]; decide)⟩
theorem en_eq {tx : Nat → Int32} {N : Nat} {T : T5} {z : M4} (h : T.2.2.2.1 = z.1) (hN : z.1 ≤ N) : decide ((ntT tx N T).2.1 = 3) = enB tx N z ∧ ((ntT tx N T).2.1 = 3 → (ntT tx N T).2.2.2.1 = (nxZ tx N z).1 ∧ (nxZ tx N z).1 ≤ N) := by
  obtain ⟨s2, s3, s0, sv, sb, sf⟩ := tk_sort (nt_at h hN)
  exact ⟨s3, fun e => sb (by rw [e]; decide)⟩
theorem fl_eq {tx : Nat → Int32} {N : Nat} {T : T5} {z : M4} (h : T.2.2.2.1 = z.1) (hN : z.1 ≤ N) : (fhT N (ntT tx N T)).1 = (flZ (nxZ tx N z)).2.2.2 := (tk_sort (nt_at h hN)).2.2.2.2.2
/-- a class's item, its end not yet looked at, against the reference's, its end looked at -/
def iR (tx : Nat → Int32) (N : Nat) (c : Bool × T5 × (Nat → Int32)) (d : RdT) : Prop :=
  (d.1 = true ∧ c.1 = true ∧ (ntT tx N c.2.1).2.1 = 3 ∧ (ntT tx N c.2.1).2.2.2.1 = d.2.1.1 ∧ d.2.1.1 ≤ N ∧ Lv c.2.2 d.2.2) ∨ (d.1 = false ∧ ((c.1 = true ∧ ¬ (ntT tx N c.2.1).2.1 = 3 ∧ (fhT N (ntT tx N c.2.1)).1 = d.2.1.2.2.2) ∨ (c.1 = false ∧ c.2.1.1 = d.2.1.2.2.2)))
theorem iR_no {tx : Nat → Int32} {N : Nat} {A : T5} {w : M4} {q ot : Nat → Int32} (h : A.1 = w.2.2.2) : iR tx N (false, A, q) (false, w, ot) := Or.inr ⟨rfl, Or.inr ⟨rfl, h⟩⟩
theorem iR_end {tx : Nat → Int32} {N : Nat} {T : T5} {z : M4} {q o1 o2 : Nat → Int32} (h : T.2.2.2.1 = z.1) (hN : z.1 ≤ N) (hL : Lv q o1) : iR tx N (true, T, q) (if enB tx N z = true then (true, nxZ tx N z, o1) else (false, flZ (nxZ tx N z), o2)) := by
  obtain ⟨e1, e2⟩ := en_eq (tx := tx) h hN
  by_cases e : enB tx N z = true
  · rw [if_pos e]
    have e3 := of_decide_eq_true (e1.trans e)
    exact Or.inl ⟨rfl, rfl, e3, (e2 e3).1, (e2 e3).2, hL⟩
  · rw [if_neg e]
    exact Or.inr ⟨rfl, Or.inl ⟨rfl, fun e3 => e (e1.symm.trans (decide_eq_true e3)), fl_eq h hN⟩⟩
theorem upd_or {r q : Nat → Int32} {k n : Nat} {v : Int32} (h : n = k ∨ r n = q n) : upd r k v n = upd q k v n := by
  unfold upd
  split
  · rfl
  · exact h.resolve_left (by assumption)
theorem Lv_new {r : Nat → Int32} {t : Int32} : Lv (upd (upd (upd r 1 0) 2 0) 0 t) (upd (fun _ => 0) 0 t) := by
  refine ⟨rfl, rfl, rfl, fun j hj => ?_, fun j hj => ?_⟩
  · have : (upd (upd (upd r 1 0) 2 0) 0 t 1).toInt = 0 := rfl
    rw [this] at hj; omega
  · have : (upd (upd (upd r 1 0) 2 0) 0 t 2).toInt = 0 := rfl
    rw [this] at hj; omega
theorem mn_eq {x : Int32} : (if x < 9999 then x else 9999) = if 9999 < x then 9999 else x := by
  by_cases h : x < 9999
  · rw [if_pos h, if_neg (fun z => Int32.lt_irrefl (Int32.lt_trans h z))]
  · rw [if_neg h]
    by_cases e : 9999 < x
    · rw [if_pos e]
    · rw [if_neg e]
      exact Int32.le_antisymm (Int32.not_lt.mp h) (Int32.not_lt.mp e)
theorem Lv.adPL {r q : Nat → Int32} (h : Lv r q) (hb : bd (r 1) 0 2) (k v : Int32) : Lv (adP r k v) (adP q k v) := by
  have c1 := cl_ti hb.1
  have b2 := hb.2
  have eq : ∀ n, n = 1 ∨ n = 6 + cl (r 1) ∨ n = 3 + cl (r 1) ∨ r n = q n → adP r k v n = adP q k v n := fun n hn => by
    unfold adP
    rw [← h.2.1]
    refine upd_or ?_
    rcases hn with e | e | e | e
    · exact Or.inl e
    · exact Or.inr (upd_or (Or.inl e))
    · exact Or.inr (upd_or (Or.inr (upd_or (Or.inl e))))
    · exact Or.inr (upd_or (Or.inr (upd_or (Or.inr e))))
  have e1 : (adP r k v 1).toInt = (r 1).toInt + 1 := by
    show (upd _ 1 (r 1 + 1) 1).toInt = _
    rw [upd_eq, ti_add (by rw [show (1 : Int32).toInt = 1 from rfl]; omega) (by rw [show (1 : Int32).toInt = 1 from rfl]; omega)]
    rfl
  have e2 : adP r k v 2 = r 2 := by unfold adP; rw [upd_ne (by omega), upd_ne (by omega), upd_ne (by omega)]
  refine ⟨eq 0 (Or.inr (Or.inr (Or.inr h.1))), eq 1 (Or.inl rfl), eq 2 (Or.inr (Or.inr (Or.inr h.2.2.1))), fun j hj => ?_, fun j hj => ?_⟩
  · rw [e1] at hj
    by_cases e : j = cl (r 1)
    · exact ⟨eq _ (Or.inr (Or.inr (Or.inl (by omega)))), eq _ (Or.inr (Or.inl (by omega)))⟩
    · have a := h.2.2.2.1 j (by omega)
      exact ⟨eq _ (Or.inr (Or.inr (Or.inr a.1))), eq _ (Or.inr (Or.inr (Or.inr a.2)))⟩
  · rw [e2] at hj
    have a := h.2.2.2.2 j hj
    exact ⟨eq _ (Or.inr (Or.inr (Or.inr a.1))), eq _ (Or.inr (Or.inr (Or.inr a.2.1))), eq _ (Or.inr (Or.inr (Or.inr a.2.2.1))), eq _ (Or.inr (Or.inr (Or.inr a.2.2.2.1))), eq _ (Or.inr (Or.inr (Or.inr a.2.2.2.2.1))), eq _ (Or.inr (Or.inr (Or.inr a.2.2.2.2.2)))⟩
theorem Lv.adNL {r q : Nat → Int32} (h : Lv r q) (hb : bd (r 2) 0 5) (p k x w : Int32) : Lv (adN r p k x w) (adN q p k x w) := by
  have c1 := cl_ti hb.1
  have b2 := hb.2
  have eq : ∀ n, n = 2 ∨ n = 39 + cl (r 2) ∨ n = 33 + cl (r 2) ∨ n = 27 + cl (r 2) ∨ n = 21 + cl (r 2) ∨ n = 15 + cl (r 2) ∨ n = 9 + cl (r 2) ∨ r n = q n → adN r p k x w n = adN q p k x w n := fun n hn => by
    unfold adN
    rw [← h.2.2.1]
    refine upd_or ?_
    rcases hn with e | hn
    · exact Or.inl e
    refine Or.inr (upd_or ?_)
    rcases hn with e | hn
    · exact Or.inl e
    refine Or.inr (upd_or ?_)
    rcases hn with e | hn
    · exact Or.inl e
    refine Or.inr (upd_or ?_)
    rcases hn with e | hn
    · exact Or.inl e
    refine Or.inr (upd_or ?_)
    rcases hn with e | hn
    · exact Or.inl e
    refine Or.inr (upd_or ?_)
    rcases hn with e | hn
    · exact Or.inl e
    exact Or.inr (upd_or hn)
  have old : ∀ n, r n = q n → adN r p k x w n = adN q p k x w n := fun n e => eq n (Or.inr (Or.inr (Or.inr (Or.inr (Or.inr (Or.inr (Or.inr e)))))))
  have e2 : (adN r p k x w 2).toInt = (r 2).toInt + 1 := by
    show (upd _ 2 (r 2 + 1) 2).toInt = _
    rw [upd_eq, ti_add (by rw [show (1 : Int32).toInt = 1 from rfl]; omega) (by rw [show (1 : Int32).toInt = 1 from rfl]; omega)]
    rfl
  have e1 : adN r p k x w 1 = r 1 := by unfold adN; rw [upd_ne (by omega), upd_ne (by omega), upd_ne (by omega), upd_ne (by omega), upd_ne (by omega), upd_ne (by omega), upd_ne (by omega)]
  refine ⟨old 0 h.1, old 1 h.2.1, eq 2 (Or.inl rfl), fun j hj => ?_, fun j hj => ?_⟩
  · rw [e1] at hj
    have a := h.2.2.2.1 j hj
    exact ⟨old _ a.1, old _ a.2⟩
  · rw [e2] at hj
    by_cases e : j = cl (r 2)
    · subst e
      exact ⟨eq _ (by omega), eq _ (by omega), eq _ (by omega), eq _ (by omega), eq _ (by omega), eq _ (by omega)⟩
    · have a := h.2.2.2.2 j (by omega)
      exact ⟨old _ a.1, old _ a.2.1, old _ a.2.2.1, old _ a.2.2.2.1, old _ a.2.2.2.2.1, old _ a.2.2.2.2.2⟩
