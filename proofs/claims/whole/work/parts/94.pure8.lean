/-! ===== orders: all figures gone through, or only those without a repeat ===== -/
def pc (S : Nat) : Nat := cl (bcF (nI S))
theorem pc_or : ∀ a, a < 64 → ∀ b, b < 64 → pc (a ||| b) ≤ pc a + pc b ∧ a ||| b < 64 := by decide +kernel
theorem pc_bc : ∀ a, a < 64 → bcF (nI a) = nI (pc a) ∧ pc a ≤ 6 := by decide +kernel
theorem pc_1 : ∀ j, j < 6 → pc (2 ^ j) = 1 ∧ 2 ^ j < 64 := by decide +kernel
theorem pc_new : ∀ a, a < 64 → ∀ j, j < 6 → (a.testBit j = false → pc (2 ^ j ||| a) = pc a + 1) ∧ (a.testBit j = true → 2 ^ j ||| a = a) := by decide +kernel
theorem pc_same : ∀ a, a < 64 → ∀ b, b < 64 → a ||| b = b → pc a = pc b → a = b := by decide +kernel
theorem pc_5 : ∀ a, a < 64 → ∀ j, j < 6 → a.testBit j = false → pc a ≤ 5 := by decide +kernel
theorem and_out : ∀ T, T < 64 → ∀ j, j < 6 → nI T &&& ((1 : Int32) <<< (nI j &&& 31) ^^^ (-1)) = nI (T ^^^ (T &&& 2 ^ j)) ∧ T ^^^ (T &&& 2 ^ j) < 64 := by decide +kernel
theorem tb_64 : ∀ a, a < 64 → ∀ j, 6 ≤ j → a.testBit j = false := fun a ha j hj => Nat.testBit_lt_two_pow (Nat.lt_of_lt_of_le ha (Nat.pow_le_pow_right (n := 2) (by decide) hj))
def dU (C : Nat) : Nat → Nat
  | 0 => 0
  | n + 1 => dU C n ||| 2 ^ (C / 6 ^ n % 6)
theorem dU_64 {C : Nat} : ∀ n, dU C n < 64 ∧ pc (dU C n) ≤ n
  | 0 => by show 0 < 64 ∧ pc 0 ≤ 0; decide +kernel
  | n + 1 => by
    have ih := dU_64 (C := C) n
    have h := pc_1 (C / 6 ^ n % 6) (Nat.mod_lt _ (by decide))
    have g := pc_or (dU C n) ih.1 (2 ^ (C / 6 ^ n % 6)) h.2
    show dU C n ||| 2 ^ (C / 6 ^ n % 6) < 64 ∧ pc (dU C n ||| 2 ^ (C / 6 ^ n % 6)) ≤ n + 1
    omega
theorem io_dU {C : Nat} : ∀ n, ioU C n = nI (dU C n)
  | 0 => rfl
  | n + 1 => by
    have ih := io_dU (C := C) n
    show ioU C n ||| ((1 : Int32) <<< (nI (C / 6 ^ n % 6) &&& 31)) = nI (dU C n ||| 2 ^ (C / 6 ^ n % 6))
    rw [ih]
    exact (or_set _ (dU_64 n).1 _ (Nat.mod_lt _ (by decide))).1
theorem dU_add {C L : Nat} : ∀ M, dU C (L + M) = dU C L ||| dU (C / 6 ^ L) M
  | 0 => by show dU C L = dU C L ||| 0; rw [Nat.or_zero]
  | M + 1 => by
    have ih := dU_add (C := C) (L := L) M
    show dU C (L + M) ||| 2 ^ (C / 6 ^ (L + M) % 6) = dU C L ||| (dU (C / 6 ^ L) M ||| 2 ^ (C / 6 ^ L / 6 ^ M % 6))
    rw [ih, Nat.pow_add, ← Nat.div_div_eq_div_mul, Nat.or_assoc]
theorem dU_s {P j M : Nat} (hj : j < 6) : dU (6 * P + j) (M + 1) = 2 ^ j ||| dU P M := by
  rw [Nat.add_comm M 1, dU_add, Nat.pow_one, show (6 * P + j) / 6 = P by omega]
  show 0 ||| 2 ^ ((6 * P + j) / 6 ^ 0 % 6) ||| _ = _
  rw [Nat.pow_zero, Nat.div_one, show (6 * P + j) % 6 = j by omega, Nat.zero_or]
theorem plI_up {C P M L p : Nat} (hC : C / 6 ^ L = P) (hp : p < M) : plI C (M + L) p = plI P M p := by
  unfold plI
  rw [show M + L - 1 - p = L + (M - 1 - p) by omega, Nat.pow_add, ← Nat.div_div_eq_div_mul, hC]
theorem plI_s {P M j p : Nat} (hj : j < 6) (hp : p < M) : plI (6 * P + j) (M + 1) p = plI P M p := plI_up (L := 1) (by rw [Nat.pow_one]; omega) hp
theorem plI_e {P M j : Nat} (hj : j < 6) : plI (6 * P + j) (M + 1) M = j := by
  unfold plI
  rw [show M + 1 - 1 - M = 0 by omega, Nat.pow_zero, Nat.div_one]
  omega
theorem orR_up {q : Nat → Int32} {i : Int32} {C P M L : Nat} (hC : C / 6 ^ L = P) : ∀ p, p ≤ M → orR q i C (M + L) p = orR q i P M p
  | 0, _ => rfl
  | p + 1, hp => by
    have ih := orR_up (q := q) (i := i) hC p (show p ≤ M by omega)
    unfold orR
    rw [ih, plI_up hC (show p < M by omega)]
theorem orR_s {q : Nat → Int32} {i : Int32} {P M j : Nat} (hj : j < 6) : orR q i (6 * P + j) (M + 1) (M + 1) = if mBrk (orR q i P M M) i = true then orR q i P M M else (btF true i (nI j) 60 0 (orR q i P M M)).2 := by
  have e : orR q i (6 * P + j) (M + 1) M = orR q i P M M := orR_up (L := 1) (by rw [Nat.pow_one]; omega) M (Nat.le_refl _)
  show (if mBrk (orR q i (6 * P + j) (M + 1) M) i = true then orR q i (6 * P + j) (M + 1) M else (btF true i (nI (plI (6 * P + j) (M + 1) M)) 60 0 (orR q i (6 * P + j) (M + 1) M)).2) = _
  rw [e, plI_e hj]
theorem meet_eq {r q : Nat → Int32} {i j : Int32} (h : Lv r q) (hw : Wf r) (hq : Wf q) : Lv (fgt true i j 60 0 r).2 (if mBrk q i = true then q else (btF true i j 60 0 q).2) := by
  cases hc : yCan q i j with
  | true => rw [if_neg (by rw [(can_m hc).1]; decide)]; exact bt_pair h hw hq hc
  | false => rw [fgt_out ((h.can i j).trans hc), btF_out hc, ite_self]; exact h
/-! one figure's turn, a run of turns -/
def oT (q : Nat → Int32) (i s : Int32) (B C : Nat) (y : Nat × Int32 × Int32) : Nat × Int32 × Int32 := if ioU C B = s then (if y.2.1 < orR q i C B B (39 + cl i) then (C, orR q i C B B (39 + cl i), orR q i C B B (33 + cl i)) else if orR q i C B B (39 + cl i) = y.2.1 then (if y.2.2 ≤ orR q i C B B (33 + cl i) then y else (C, orR q i C B B (39 + cl i), orR q i C B B (33 + cl i))) else y) else y
def fR (F : Nat → Nat × Int32 × Int32 → Nat × Int32 × Int32) (a : Nat) : Nat → Nat × Int32 × Int32 → Nat × Int32 × Int32
  | 0, y => y
  | n + 1, y => F (a + n) (fR F a n y)
theorem orB_fR {q : Nat → Int32} {i s : Int32} {B : Nat} : ∀ C, orB q i s B C = fR (oT q i s B) 0 C (0, -1, 0)
  | 0 => rfl
  | C + 1 => by
    have ih := orB_fR (q := q) (i := i) (s := s) (B := B) C
    show _ = oT q i s B (0 + C) (fR (oT q i s B) 0 C (0, -1, 0))
    rw [← ih, Nat.zero_add]
    rfl
theorem fR_add {F : Nat → Nat × Int32 × Int32 → Nat × Int32 × Int32} {a m : Nat} {y : Nat × Int32 × Int32} : ∀ n, fR F a (m + n) y = fR F (a + m) n (fR F a m y)
  | 0 => rfl
  | n + 1 => by
    have ih := fR_add (F := F) (a := a) (m := m) (y := y) n
    show F (a + (m + n)) (fR F a (m + n) y) = F (a + m + n) (fR F (a + m) n (fR F a m y))
    rw [ih, Nat.add_assoc]
theorem fR_id {F : Nat → Nat × Int32 × Int32 → Nat × Int32 × Int32} {a : Nat} {y : Nat × Int32 × Int32} : ∀ n, (∀ C, a ≤ C → C < a + n → F C y = y) → fR F a n y = y
  | 0, _ => rfl
  | n + 1, h => by
    have ih := fR_id n (fun C h1 h2 => h C h1 (by omega))
    show F (a + n) (fR F a n y) = y
    rw [ih]
    exact h _ (by omega) (by omega)
def oSt (B : Nat) (z : S4) (y : Nat × Int32 × Int32) : Prop := z.1 = y.2.1 ∧ z.2.1 = y.2.2 ∧ ∀ p, p < B → z.2.2.2 p = nI (plI y.1 B p)
def oWk (B : Nat) (z : S4) (y : Nat × Int32 × Int32) : Prop := oSt B z y ∨ z.1 = -1 ∧ y.2.1 = -1
theorem div_rng {P L C : Nat} (h1 : P * 6 ^ L ≤ C) (h2 : C < P * 6 ^ L + 6 ^ L) : C / 6 ^ L = P := by
  have hp : 0 < 6 ^ L := Nat.pow_pos (by decide)
  exact Nat.div_eq_of_lt_le h1 (by rw [Nat.succ_mul]; exact h2)
