theorem kaldq_ {A B : Prop} (h : A) (_ : B) : A := h
section KQ
variable {p : Program} {l : Launch} {e : Env} {s : State} {m : MethodId} {args : Array Value} {below : List Frame} {meth : Method} {c : Code} {H : Heap} {locs : List Loc} {cells slots : Nat} {Q : State → Prop} {R : Room} {cc : ByteArray} {nL pc a : Nat} {own : String} {ls : Array Slot} {rest : List Value} {g : gG} {B : va_W}
theorem kaldq {v : Value} (t0 : Nat) (S : CallFix p m c cc nL s args gw own) (hK : kK g s) (hP : kP g B H) (q0 : Nat) {cA : ClassId} {C : String} {n : Nat} {f : Nat → Option Nat} (ha : B[q0]? = some (a, .inl (cA, n, .inr (.inr (.inr (.inr f)))))) (ht : (gT g)[t0]? = some (cA, .object C)) {i : Int32} (hin : vp_in i n) (hv : va_rf (f (cl i)) = v) (hdg : decode cc pc = .ok (.aaload, 1))
    (kk : W p l e R s m args below meth c H locs cells slots Q (F0 m (pc + 1) ls (v :: rest))) : W p l e R s m args below meth c H locs cells slots Q (F0 m pc ls (.int i :: .ref a :: rest)) :=
  va_aldq S.1 S.2.1 hK.1 hP q0 t0 ha ht hin hdg (by rw [show va_rf (f i.toNatClampNeg) = v from hv]; exact kk)
end KQ
theorem tW_p2 {g : gG} {t : Nat → Nat} {gr : Nat} {sg : Nat → Nat} {bs bc : Int32} {p1 p2 p3 p4 p5 h : Nat → Int32} (e : ∀ j, j < 6 → p2 j = h j) : ∀ H, kP g (tW g t gr sg bs bc p1 p2 p3 p4 p5) H → kP g (tW g t gr sg bs bc p1 h p3 p4 p5) H := by
  intro H h1
  simp only [tW, kP_cons] at h1 ⊢
  exact ⟨h1.1, h1.2.1, h1.2.2.1, va_arr_congr e h1.2.2.2.1, h1.2.2.2.2⟩
/-- what both get by a bout of each two -/
def g1F (r : Nat → Int32) (p q : Int32) (P : Nat → Int32) : Nat → Nat → Int32
  | 0 => P
  | n + 1 => if chB r p q n = true then upd (g1F r p q P n) n (gtB (fgt true (nI (n / 6)) (nI (n % 6)) 60 0 r).2 r (nI (n / 6))) else g1F r p q P n
def g2F (r : Nat → Int32) (p q : Int32) (P : Nat → Int32) : Nat → Nat → Int32
  | 0 => P
  | n + 1 => if chB r p q n = true then upd (g2F r p q P n) n (gtB (fgt true (nI (n / 6)) (nI (n % 6)) 60 0 r).2 r (nI (n % 6))) else g2F r p q P n
theorem g1_t {r : Nat → Int32} {p q : Int32} {P : Nat → Int32} {n : Nat} (h : chB r p q n = true) : g1F r p q P (n + 1) = upd (g1F r p q P n) n (gtB (fgt true (nI (n / 6)) (nI (n % 6)) 60 0 r).2 r (nI (n / 6))) := by
  show (if _ then _ else _) = _
  rw [if_pos h]
theorem g1_f {r : Nat → Int32} {p q : Int32} {P : Nat → Int32} {n : Nat} (h : chB r p q n = false) : g1F r p q P (n + 1) = g1F r p q P n := by
  show (if _ then _ else _) = _
  rw [if_neg (by rw [h]; decide)]
theorem g2_t {r : Nat → Int32} {p q : Int32} {P : Nat → Int32} {n : Nat} (h : chB r p q n = true) : g2F r p q P (n + 1) = upd (g2F r p q P n) n (gtB (fgt true (nI (n / 6)) (nI (n % 6)) 60 0 r).2 r (nI (n % 6))) := by
  show (if _ then _ else _) = _
  rw [if_pos h]
theorem g2_f {r : Nat → Int32} {p q : Int32} {P : Nat → Int32} {n : Nat} (h : chB r p q n = false) : g2F r p q P (n + 1) = g2F r p q P n := by
  show (if _ then _ else _) = _
  rw [if_neg (by rw [h]; decide)]
/-- those that rest: how many, which -/
def rkF (r : Nat → Int32) (p q : Int32) (P Q : Nat → Int32) : Nat → Nat
  | 0 => 0
  | n + 1 => if chB r p q n = true ∧ rsB r p q P Q n = true then rkF r p q P Q n + 1 else rkF r p q P Q n
def rpF (r : Nat → Int32) (p q : Int32) (P Q Z : Nat → Int32) : Nat → Nat → Int32
  | 0 => Z
  | n + 1 => if chB r p q n = true ∧ rsB r p q P Q n = true then upd (rpF r p q P Q Z n) (rkF r p q P Q n) (nI (10 * (n / 6) + n % 6)) else rpF r p q P Q Z n
theorem rk_t {r : Nat → Int32} {p q : Int32} {P Q : Nat → Int32} {n : Nat} (h : chB r p q n = true ∧ rsB r p q P Q n = true) : rkF r p q P Q (n + 1) = rkF r p q P Q n + 1 := by
  show (if _ then _ else _) = _
  rw [if_pos h]
theorem rk_f {r : Nat → Int32} {p q : Int32} {P Q : Nat → Int32} {n : Nat} (h : chB r p q n = false ∨ rsB r p q P Q n = false) : rkF r p q P Q (n + 1) = rkF r p q P Q n := by
  show (if _ then _ else _) = _
  rw [if_neg (by rcases h with h | h <;> simp [h])]
theorem rp_t {r : Nat → Int32} {p q : Int32} {P Q Z : Nat → Int32} {n : Nat} (h : chB r p q n = true ∧ rsB r p q P Q n = true) : rpF r p q P Q Z (n + 1) = upd (rpF r p q P Q Z n) (rkF r p q P Q n) (nI (10 * (n / 6) + n % 6)) := by
  show (if _ then _ else _) = _
  rw [if_pos h]
theorem rp_f {r : Nat → Int32} {p q : Int32} {P Q Z : Nat → Int32} {n : Nat} (h : chB r p q n = false ∨ rsB r p q P Q n = false) : rpF r p q P Q Z (n + 1) = rpF r p q P Q Z n := by
  show (if _ then _ else _) = _
  rw [if_neg (by rcases h with h | h <;> simp [h])]
theorem rk_le {r : Nat → Int32} {p q : Int32} {P Q : Nat → Int32} : ∀ n, rkF r p q P Q n ≤ n
  | 0 => Nat.le_refl 0
  | n + 1 => by
    have := rk_le (r := r) (p := p) (q := q) (P := P) (Q := Q) n
    by_cases h : chB r p q n = true ∧ rsB r p q P Q n = true
    · rw [rk_t h]; omega
    · rw [show rkF r p q P Q (n + 1) = rkF r p q P Q n from if_neg h]; omega
def kbB (s d bs bc : Int32) : Bool := !(decide (s < bs) || (decide (s = bs) && decide (bc ≤ d)))
