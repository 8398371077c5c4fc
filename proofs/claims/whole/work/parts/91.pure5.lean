/-! ===== the next look ===== -/
theorem alM_cnA {r : Nat → Int32} {hd i s f c : Int32} {k : Nat} : ∀ n, alM r hd i s f c k n = cnA (fun a => lkF r hd i f c (nI a)) s k n
  | 0 => rfl
  | n + 1 => by
    have ih := alM_cnA (r := r) (hd := hd) (i := i) (s := s) (f := f) (c := c) (k := k) n
    unfold alM cnA
    rw [ih]
theorem alK_G {r : Nat → Int32} {hd i s f c : Int32} : ∀ n, alK r hd i s f c n = mxG (fun a => lkF r hd i f c (nI a)) s 10 n
  | 0 => rfl
  | n + 1 => by
    have ih := alK_G (r := r) (hd := hd) (i := i) (s := s) (f := f) (c := c) n
    unfold alK mxG
    rw [ih, alM_cnA]
theorem mxA_G {A : Nat → Int32} {s : Int32} : ∀ n, mxA A s n = mxG A s 6 n
  | 0 => rfl
  | n + 1 => by
    have ih := mxA_G (A := A) (s := s) n
    unfold mxA mxG
    rw [ih]
def gL (al : Nat → Int32) : Nat → Int32 × Int32
  | 0 => (-1, 11)
  | m + 1 => if (gL al m).2 ≤ al m then gL al m else (nI m, al m)
theorem lkP_gL {r : Nat → Int32} {hd i s : Int32} : ∀ m, lkP r hd i s m = gL (fun m => alK r hd i s (nI (m / 10)) (nI (m % 10)) 10) m
  | 0 => rfl
  | m + 1 => by
    have ih := lkP_gL (r := r) (hd := hd) (i := i) (s := s) m
    rw [lkP_s, ih]
    rfl
theorem gL_ext {al bl : Nat → Int32} : ∀ n, (∀ m, m < n → al m = bl m) → gL al n = gL bl n
  | 0, _ => rfl
  | n + 1, h => by
    have ih := gL_ext n (fun m hm => h m (by omega))
    unfold gL
    rw [ih, h n (Nat.lt_succ_self n)]
theorem bsF_gL {al : Nat → Int32} (h1 : ∀ m, 1 ≤ al m) : ∀ n, bsF al (fun _ => false) n = gL al n
  | 0 => rfl
  | n + 1 => by
    have ih := bsF_gL h1 n
    unfold bsF gL
    rw [ih, if_neg (show ¬ (false = true) by decide)]
    by_cases h : 1 < (gL al n).2
    · rw [if_pos h]
      by_cases h2 : al n < (gL al n).2
      · rw [if_pos h2, if_neg (Int32.not_le.mpr h2)]
      · rw [if_neg h2, if_pos (Int32.not_lt.mp h2)]
    · rw [if_neg h, if_pos (Int32.le_trans (Int32.not_lt.mp h) (h1 n))]
theorem set_ne0 {p : Nat → Bool} : ∀ n, ¬ setB p n = 0 → ∃ j, j < n ∧ p j = true
  | 0, h => absurd rfl h
  | n + 1, h => by
    cases hp : p n with
    | true => exact ⟨n, Nat.lt_succ_self n, hp⟩
    | false =>
      rw [← setB_f hp] at h
      obtain ⟨j, h1, h2⟩ := set_ne0 n h
      exact ⟨j, by omega, h2⟩
theorem mo_ge {A : Nat → Int32} {c : Int32} {j : Nat} (hj : j < 10) (hs : hasB c (nI j) = true) : 1 ≤ moF A c 10 := by
  have h1 := mxN_ge (s := fun j => hasB c (nI j)) (v := fun k => 1 + cN (fun j => hasB c (nI j) && decide (A j = A k)) k) 10 j hj hs
  have h2 : mxN (fun j => hasB c (nI j)) (fun k => 1 + cN (fun j => hasB c (nI j) && decide (A j = A k)) k) 10 ≤ 11 := mxN_le 10 fun k hk _ => by have := cN_le (p := fun j => hasB c (nI j) && decide (A j = A k)) k; show 1 + _ ≤ 11; omega
  rw [mo_nI 10 (Nat.le_refl _)]
  exact (nI_leI (a := 1) (by omega) (by omega)).mpr (by have h3 : 1 + cN (fun i => hasB c (nI i) && decide (A i = A j)) j ≤ _ := h1; omega)
theorem tell_eq {r q : Nat → Int32} {i s : Int32} {p : Nat → Bool} (h : Lv r q) (hi : yNut r i = true) (hs : s = setB p 10) :
    (if s = 0 then -1 else (bsF (fun L => moF (fun k => crk (yFact r i 1) (nI k) (nI (L % 10)) (nI (L / 10)) (yNext r)) s 10) (fun _ => false) 210).1) = if s = 0 then -1 else (lkP q 1 i s (10 * 21)).1 := by
  by_cases h0 : s = 0
  · rw [if_pos h0, if_pos h0]
  · rw [if_neg h0, if_neg h0]
    obtain ⟨j, hj, hp⟩ := set_ne0 (p := p) 10 (by rw [← hs]; exact h0)
    have hb : hasB s (nI j) = true := by rw [hs, has_set (Nat.le_refl _) hj, decide_eq_true hj, hp]; rfl
    have hy : yFact r i 1 = q (15 + cl i) := (yFact_k (r := r) (k := 1) hi (by decide)).trans (h.at hi).2.1
    rw [bsF_gL (fun m => mo_ge hj hb), lkP_gL, show 10 * 21 = 210 from rfl]
    refine congrArg Prod.fst (gL_ext 210 fun m _ => ?_)
    show moF _ s 10 = alK q 1 i s (nI (m / 10)) (nI (m % 10)) 10
    rw [mo_G, alK_G, hy, h.next]
    rfl
theorem look_eq {r q : Nat → Int32} {i s : Int32} {p : Nat → Bool} (h : Lv r q) (hi : yNut r i = true) (hs : s = setB p 6) :
    (if s = 0 then -1 else (bsF (fun L => moF (fun k => crk (nI k) (yFact r i 2) (nI (L % 10)) (nI (L / 10)) (yNext r)) s 10) (fun _ => false) 210).1) = if s = 0 then -1 else (lkP q 0 i s (10 * 21)).1 := by
  by_cases h0 : s = 0
  · rw [if_pos h0, if_pos h0]
  · rw [if_neg h0, if_neg h0]
    obtain ⟨j, hj, hp⟩ := set_ne0 (p := p) 6 (by rw [← hs]; exact h0)
    have hb : hasB s (nI j) = true := by rw [hs, has_set (by decide) (by omega), decide_eq_true hj, hp]; rfl
    have hy : yFact r i 2 = q (21 + cl i) := (yFact_k (r := r) (k := 2) hi (by decide)).trans (h.at hi).2.2.1
    rw [bsF_gL (fun m => mo_ge (show j < 10 by omega) hb), lkP_gL, show 10 * 21 = 210 from rfl]
    refine congrArg Prod.fst (gL_ext 210 fun m _ => ?_)
    show moF _ s 10 = alK q 0 i s (nI (m / 10)) (nI (m % 10)) 10
    rw [mo_G, alK_G, hy, h.next]
    rfl
/-! asking: only six kinds, weights from 1 on -/
theorem cN_cut {p : Nat → Bool} {a : Nat} : ∀ b, (∀ j, a ≤ j → j < a + b → p j = false) → cN p (a + b) = cN p a
  | 0, _ => rfl
  | b + 1, h => by
    have ih := cN_cut (p := p) (a := a) b (fun j h1 h2 => h j h1 (by omega))
    show cN p (a + b) + (if p (a + b) = true then 1 else 0) = _
    rw [ih, if_neg (by rw [h (a + b) (by omega) (by omega)]; decide)]
    rfl
theorem mxN_cut {s : Nat → Bool} {v : Nat → Nat} {a : Nat} : ∀ b, (∀ j, a ≤ j → j < a + b → s j = false) → mxN s v (a + b) = mxN s v a
  | 0, _ => rfl
  | b + 1, h => by
    have ih := mxN_cut (s := s) (v := v) (a := a) b (fun j h1 h2 => h j h1 (by omega))
    show (if s (a + b) = true then _ else mxN s v (a + b)) = _
    rw [if_neg (by rw [h (a + b) (by omega) (by omega)]; decide), ih]
theorem mxN_ext {s : Nat → Bool} {v w : Nat → Nat} : ∀ n, (∀ k, k < n → v k = w k) → mxN s v n = mxN s w n
  | 0, _ => rfl
  | n + 1, h => by
    have ih := mxN_ext (s := s) n (fun k hk => h k (by omega))
    unfold mxN
    rw [ih, h n (Nat.lt_succ_self n)]
theorem G_6 {A : Nat → Int32} {p : Nat → Bool} : mxG A (setB p 6) 10 10 = mxG A (setB p 6) 6 6 := by
  have hz : ∀ j, 6 ≤ j → j < 6 + 4 → hasB (setB p 6) (nI j) = false := fun j h1 h2 => by rw [has_set (by decide) (by omega), decide_eq_false (by omega), Bool.false_and]
  rw [mxG_nI (by decide), mxG_nI (by decide)]
  rw [show mxN (fun j => hasB (setB p 6) (nI j)) (fun k => cN (fun j => hasB (setB p 6) (nI j) && decide (A k = A j)) 10) 10 = mxN (fun j => hasB (setB p 6) (nI j)) (fun k => cN (fun j => hasB (setB p 6) (nI j) && decide (A k = A j)) 10) 6 from mxN_cut (a := 6) 4 hz]
  rw [mxN_ext (s := fun j => hasB (setB p 6) (nI j)) 6 fun k _ => show cN (fun j => hasB (setB p 6) (nI j) && decide (A k = A j)) 10 = cN (fun j => hasB (setB p 6) (nI j) && decide (A k = A j)) 6 from cN_cut (a := 6) 4 fun j h1 h2 => by rw [hz j h1 h2, Bool.false_and]]
theorem mxG_6 {A : Nat → Int32} {c : Int32} : mxG A c 6 6 ≤ 6 := by
  have h : mxN (fun j => hasB c (nI j)) (fun k => cN (fun j => hasB c (nI j) && decide (A k = A j)) 6) 6 ≤ 6 := mxN_le 6 fun k _ _ => cN_le 6
  rw [mxG_nI (by decide)]
  exact (nI_leI (b := 6) (by omega) (by omega)).mpr h
def gA (al : Nat → Int32) : Nat → Int32 × Int32
  | 0 => (-1, 7)
  | m + 1 => if m % 10 = 0 then gA al m else if (gA al m).2 ≤ al m then gA al m else (nI m, al m)
theorem bsF_gA {al : Nat → Int32} (h1 : ∀ m, 1 ≤ al m) (h6 : ∀ m, al m ≤ 6) : ∀ n, bsF al (fun L => decide (L % 10 = 0)) (n + 2) = gA al (n + 2)
  | 0 => by
    have a1 : bsF al (fun L => decide (L % 10 = 0)) 1 = (-1, 11) := bsF_skip (n := 0) rfl
    have a2 : gA al 1 = (-1, 7) := if_pos rfl
    have e1 : al 1 < 11 := Int32.lt_of_le_of_lt (h6 1) (by decide)
    have e2 : ¬ (7 : Int32) ≤ al 1 := Int32.not_le.mpr (Int32.lt_of_le_of_lt (h6 1) (by decide))
    rw [show 0 + 2 = 1 + 1 from rfl]
    rw [bsF_yes (n := 1) (by rw [a1]; decide) rfl (by rw [a1]; exact e1)]
    show _ = (if 1 % 10 = 0 then gA al 1 else if (gA al 1).2 ≤ al 1 then gA al 1 else (nI 1, al 1))
    rw [if_neg (by decide), a2, if_neg e2]
  | n + 1 => by
    have ih := bsF_gA h1 h6 n
    show (if 1 < (bsF al (fun L => decide (L % 10 = 0)) (n + 2)).2 then (if decide ((n + 2) % 10 = 0) = true then _ else if al (n + 2) < (bsF al (fun L => decide (L % 10 = 0)) (n + 2)).2 then _ else _) else _) = (if (n + 2) % 10 = 0 then _ else if (gA al (n + 2)).2 ≤ al (n + 2) then _ else _)
    rw [ih]
    by_cases hs : (n + 2) % 10 = 0
    · rw [if_pos hs, if_pos (decide_eq_true hs)]
      split
      · rfl
      · rfl
    · rw [if_neg hs, if_neg (show ¬ decide ((n + 2) % 10 = 0) = true by rw [decide_eq_false hs]; decide)]
      by_cases h : 1 < (gA al (n + 2)).2
      · rw [if_pos h]
        by_cases h2 : al (n + 2) < (gA al (n + 2)).2
        · rw [if_pos h2, if_neg (Int32.not_le.mpr h2)]
        · rw [if_neg h2, if_pos (Int32.not_lt.mp h2)]
      · rw [if_neg h, if_pos (Int32.le_trans (Int32.not_lt.mp h) (h1 _))]
theorem akP_gA {r : Nat → Int32} {p s : Int32} : ∀ m, akP r p s m = gA (fun m => mxA (fun a => frc (nI a) (r (6 + cl p)) (nI (m % 10)) (nI (m / 10))) s 6) m
  | 0 => rfl
  | m + 1 => by
    have ih := akP_gA (r := r) (p := p) (s := s) m
    by_cases h : m % 10 = 0
    · rw [akP_0 h, ih]; exact (if_pos h).symm
    · rw [akP_s h, ih]; exact (if_neg h).symm
theorem gA_ext {al bl : Nat → Int32} : ∀ n, (∀ m, m < n → al m = bl m) → gA al n = gA bl n
  | 0, _ => rfl
  | n + 1, h => by
    have ih := gA_ext n (fun m hm => h m (by omega))
    unfold gA
    rw [ih, h n (Nat.lt_succ_self n)]
theorem ask_eq {r q : Nat → Int32} {i s : Int32} {p : Nat → Bool} (h : Lv r q) (hi : yPl r i = true) (hs : s = setB p 6) :
    (if s = 0 then -1 else (bsF (fun L => moF (fun k => frc (nI k) (yPF r i 1) (nI (L % 10)) (nI (L / 10))) s 10) (fun L => decide (L % 10 = 0)) 210).1) = if s = 0 then -1 else (akP q i s (10 * 21)).1 := by
  by_cases h0 : s = 0
  · rw [if_pos h0, if_pos h0]
  · rw [if_neg h0, if_neg h0]
    obtain ⟨j, hj, hp⟩ := set_ne0 (p := p) 6 (by rw [← hs]; exact h0)
    have hb : hasB s (nI j) = true := by rw [hs, has_set (by decide) (by omega), decide_eq_true hj, hp]; rfl
    have hy : yPF r i 1 = q (6 + cl i) := by
      unfold yPF
      rw [if_pos hi, if_neg (by decide), if_pos rfl]
      exact (h.pat hi).2
    have e : ∀ m : Nat, moF (fun k => frc (nI k) (yPF r i 1) (nI (m % 10)) (nI (m / 10))) s 10 = mxA (fun a => frc (nI a) (q (6 + cl i)) (nI (m % 10)) (nI (m / 10))) s 6 := fun m => by
      rw [mo_G, mxA_G, hy, hs, G_6]
    rw [bsF_gA (fun m => mo_ge (show j < 10 by omega) hb) (fun m => by rw [e m, mxA_G]; exact mxG_6) 208, akP_gA, show 10 * 21 = 208 + 2 from rfl]
    exact congrArg Prod.fst (gA_ext (208 + 2) fun m _ => e m)
